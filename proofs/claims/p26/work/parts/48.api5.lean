theorem pRn_r (T : zS) (n : Int) : ∀ (f : Nat) (i k : Int), 0 ≤ i → i ≤ n → 0 ≤ (pRn T n f i k).1.2 ∧ (pRn T n f i k).1.2 ≤ n
  | 0, i, k, h1, h2 => ⟨h1, h2⟩
  | f + 1, i, k, h1, h2 => by
    have ht := pT_r (T := T) h2
    have hs := pS_r (T := T) (n := n) (c := 59) (x := pT T n i) (by omega) (by omega)
    unfold pRn
    split
    · split
      · exact pRn_r T n f _ _ (by omega) (by omega)
      · dsimp only; omega
    · dsimp only; omega
theorem pR_r (T : zS) {n : Int} (h : 0 ≤ n) : 0 ≤ (pR T n 0 0).1.2 ∧ (pR T n 0 0).1.2 ≤ n := pRn_r T n _ 0 0 (by omega) h
def zPf (M : zM) (T : zS) (l : Int) (σ : zS) (v : Option zV) (M' : zM) : Prop :=
  (¬ (pR T l 0 0).1.1 = 0 ∧ v = some (.inl (-100 - (pR T l 0 0).1.2)) ∧ zKp M M') ∨ ((pR T l 0 0).1.1 = 0 ∧ ¬ (pD T l (pR T l 0 0).2.toNat 0 0 σ).1.1 = 0 ∧ v = some (.inl (-4)) ∧ zRel M' 0 σ ∧ (∀ a : Int, ((50 ≤ a ∧ a < 175) ∨ a = 176 ∨ a = 177 ∨ a = 179 ∨ a = 184 ∨ 187 ≤ a) → M' a = M a) ∧ M' 178 1 = M 178 1 ∧ (∀ j : Int, j ≠ 7 → j ≠ 8 → M' 175 j = M 175 j) ∧ M' 175 7 = (pD T l (pR T l 0 0).2.toNat 0 0 σ).1.2 ∧ M' 175 8 = (pD T l (pR T l 0 0).2.toNat 0 0 σ).1.1) ∨ ((pR T l 0 0).1.1 = 0 ∧ (pD T l (pR T l 0 0).2.toNat 0 0 σ).1.1 = 0 ∧ v = some (.inl (pR T l 0 0).2) ∧ zDid M σ (pD T l (pR T l 0 0).2.toNat 0 0 σ).2 M')

theorem vX4_perform {G : zG} {M : zM} {σ : zS}   (hR : zRel M 0 σ) (hB : zB σ) (hX : zX σ) (h1 : 0 ≤ M 176 1 ∧ M 176 1 ≤ 4) (h2 : 0 ≤ M 176 2 ∧ M 176 2 < 4) {T : zS} {l : Int} (h179 : M 179 = T) (hl : M 178 1 = l) (hT : zTc T l) : zCall G yX4_perform YX4_perform [.inr (some 175)] M (fun v M' => zPf M T l σ v M') := by
  refine zEnter (by decide +kernel) rfl (Nat.le_of_ble_eq_true rfl) ?_
  have hA := hB.1
  have hI := hA.1
  have hs9 := hI.1
  unfold zIs at hs9
  have h8 := hB.2.1
  have ht0 := hB.2.2
  refine z_aload_n dX4_perform_0 rfl ?_
  refine z_getR (b := 178) dX4_perform_1 fX4_36 (by decide) (zsh175) rfl rfl ?_
  refine z_callV mX2_read (vX2_read h179 hl hT) rfl dX4_perform_4 kX4_90 (by decide) rfl (by show _ ≤ 8; simp) (by decide) (zsh178) (by decide) rfl (fun v4 M4 q4 => ?_)
  obtain ⟨hC4, hok, hbad⟩ := q4
  have hrr := pR_r T hT.1.1
  have hex : ∃ r : Int, v4 = some (.inl r) ∧ (((pR T l 0 0).1.1 = 0 ∧ r = -1) ∨ (¬ (pR T l 0 0).1.1 = 0 ∧ r = (pR T l 0 0).1.2)) := by
    by_cases q : (pR T l 0 0).1.1 = 0
    · exact ⟨_, (hok q).1, Or.inl ⟨q, rfl⟩⟩
    · exact ⟨_, hbad q, Or.inr ⟨q, rfl⟩⟩
  obtain ⟨r, rfl, hr⟩ := hex
  try simp only [zpush]
  have hT1 := hT.1
  refine z_istore_n dX4_perform_7 (by decide) ?_
  refine z_iload_n dX4_perform_8 rfl ?_
  refine z_iconst dX4_perform_9 ?_
  refine z_icmp_eq (tgt := 18) dX4_perform_10 (by decide) (by omega) (by omega) (fun c10 => ?_) (fun c10 => ?_)
  · have hR0 : (pR T l 0 0).1.1 = 0 := (hr.resolve_right (fun q => by omega)).1
    obtain ⟨_, hg3, hg21, hgt⟩ := hok hR0
    have hG := pG_of T l (l - 0 + 1).toNat 0 0 (by omega) hT1.1 (by omega) hR0
    have hRm := hR.mv (N := M4) (fun a q1 q2 => hC4.1 a (by omega))
    refine z_aload_n dX4_perform_18 rfl ?_
    refine z_getR (b := 25) dX4_perform_19 fX4_16 (by decide) (zsh175) rfl rfl ?_
    refine z_aload_n dX4_perform_22 rfl ?_
    refine z_getR (b := 0) dX4_perform_23 fX4_12 (by decide) (zsh175) rfl rfl ?_
    refine z_callV mX1_copyFrom (vX1_copyFrom zP_25 zP_0 (by decide) hRm hI) rfl dX4_perform_26 kX4_54 (by decide) rfl (by show _ ≤ 8; simp) (zP_r0 (zP_25)) (zm_sh_p0 (zP_25)) (by decide) rfl (fun v26 M26 q26 => ?_)
    obtain ⟨rfl, hR25, hO25⟩ := q26
    try simp only [zpush]
    have hR00 := hRm.mv (N := M26) (fun a q1 q2 => hO25 a (by omega))
    generalize hK : (pR T l 0 0).2 = K at hg3 hg21 hgt hG
    refine z_iconst dX4_perform_29 ?_
    refine z_istore_n dX4_perform_30 (by decide) ?_
    have L : ∀ (n : Nat) (d : Int) (N : zM) (τ : zS), (0 ≤ d ∧ d ≤ K) → (d + n = K + 1) → (zRel N 0 τ) → (zB τ) → (zX τ) → (zOff M26 N 0) → (d < K → pG T l (K - d).toNat (zq T l d.toNat)) → (pD T l (K - d).toNat (zq T l d.toNat) d τ = pD T l K.toNat 0 0 σ) → zW G YX4_perform (fun v M' => zPf M T l σ v M') 31 [(2, .inl d), (0, .inr (some 175))] [] N := by
      intro n
      induction n with
      | zero => intro d N τ hd hdn hR hB hX hO hg he; exfalso; omega
      | succ n ih =>
        intro d N τ hd hdn hR hB hX hO hg he
        have h3 : N 178 3 = K := by rw [hO 178 (by omega), hO25 178 (by omega), hg3]
        refine z_iload_n dX4_perform_31 rfl ?_
        refine z_aload_n dX4_perform_32 rfl ?_
        refine z_getR (b := 178) dX4_perform_33 fX4_36 (by decide) (zsh175) rfl rfl ?_
        refine z_getI (kI := 3) dX4_perform_36 fX4_93 (by decide) (zsh178) rfl rfl ?_
        refine z_icmp_ge (tgt := 88) dX4_perform_39 (by decide) (by omega) (by omega) (fun c39 => ?_) (fun c39 => ?_)
        · have hdK : d = K := by omega
          have eD : pD T l K.toNat 0 0 σ = ((0, d), τ) := by rw [← he, show (K - d).toNat = 0 by omega]; rfl
          have e76 : N 176 = M 176 := by rw [hO 176 (by omega), hO25 176 (by omega), hC4.1 176 (by omega)]
          have e78 : N 178 1 = M 178 1 := by rw [hO 178 (by omega), hO25 178 (by omega), hC4.2]
          have eall : ∀ a : Int, ((50 ≤ a ∧ a < 178) ∨ a = 179 ∨ a = 184 ∨ 187 ≤ a) → N a = M a := fun a ha => by rw [hO a (by omega), hO25 a (by omega), hC4.1 a (by omega)]
          refine z_aload_n dX4_perform_88 rfl ?_
          refine z_aload_n dX4_perform_89 rfl ?_
          refine z_getR (b := 178) dX4_perform_90 fX4_36 (by decide) (zsh175) rfl rfl ?_
          refine z_getI (kI := 3) dX4_perform_93 fX4_93 (by decide) (zsh178) rfl rfl ?_
          rw [h3]
          refine z_callV mX4_recorded (vX4_recorded (σ := σ) (by omega) (hR25.mv (fun a q1 q2 => hO a (by omega))) hI (by rw [e76]; exact h1) (by rw [e76]; exact h2)) rfl dX4_perform_96 kX4_62 (by decide) rfl (by show _ ≤ 8; simp) (by decide) (zsh175) (by decide) rfl (fun v96 M96 q96 => ?_)
          obtain ⟨rfl, hm⟩ := q96
          try simp only [zpush]
          refine z_iret dX4_perform_99 rfl ?_
          obtain ⟨_, g1, g2, g3, g4⟩ := hm.resolve_left (fun q => by have := q.1; omega)
          rw [e76] at g1 g2 g3 g4
          refine Or.inr (Or.inr ⟨hR0, by rw [hK, eD], by rw [hK], ?_⟩)
          rw [hK, eD]
          exact ⟨hR.mv (fun a q1 q2 => g2 a (by omega) (by omega)), g1, fun a q1 q2 q3 => (g2 a q2 q3).trans (eall a (by omega)), by rw [g2 178 (by omega) (by omega)]; exact e78, g3, g4⟩
        · have hm : (K - d).toNat = (K - (d + 1)).toNat + 1 := by omega
          have hgd := hg (by omega)
          rw [hm] at hgd he
          obtain ⟨hq, hp, hnx⟩ := hgd
          have hthd : zTh T l (zq T l d.toNat) N d := (hgt d (by omega) (by omega)).mv (fun a q1 q2 => by rw [hO a (by omega), hO25 a (by omega)])
          refine z_aload_n dX4_perform_42 rfl ?_
          refine z_iload_n dX4_perform_43 rfl ?_
          refine z_callV mX4_doThing (vX4_doThing (T := T) (l := l) (i := zq T l d.toNat) hR hB hX (by omega) hp hthd) rfl dX4_perform_44 kX4_96 (by decide) rfl (by show _ ≤ 8; simp) (by decide) (zsh175) (by decide) rfl (fun v44 M44 q44 => ?_)
          obtain ⟨x44, rfl, hxr, hx⟩ := q44
          try simp only [zpush]
          refine z_istore_n dX4_perform_47 (by decide) ?_
          refine z_iload_n dX4_perform_48 rfl ?_
          refine z_if_ge (tgt := 82) dX4_perform_49 (by decide) (by omega) (fun c49 => ?_) (fun c49 => ?_)
          · refine z_iinc dX4_perform_82 rfl (by decide) ?_
            refine z_goto (tgt := 31) dX4_perform_85 (by decide) ?_
            have hz1 : (d + 1).toNat = d.toNat + 1 := by omega
            have hz2 : zq T l (d + 1).toNat = (pT T l (zq T l d.toNat)).2 + 1 := by rw [hz1]; rfl
            have hg' : d + 1 < K → pG T l (K - (d + 1)).toNat (zq T l (d + 1).toNat) := fun q => by rw [hz2]; exact hnx.resolve_left (by omega)
            rw [pD_s, ← hz2] at he
            rcases hx with ⟨hb, hxe, hMe⟩ | ⟨hb, hx0, hRx, hOx⟩
            · have hb5 : sBarK τ (pN T l (zq T l d.toNat)) (p1 T l (zq T l d.toNat)) (p2 T l (zq T l d.toNat)) (p3 T l (zq T l d.toNat)) = -5 := by omega
              rw [if_neg (by omega), if_pos hb5] at he
              rw [hMe]
              exact zsub' (ih (d + 1) _ τ (by omega) (by omega) hR hB hX hO hg' he) ⟨rfl, rfl, trivial⟩
            · rw [if_pos hb] at he
              exact zsub' (ih (d + 1) _ _ (by omega) (by omega) hRx (zB_eff hB hb).1 (zX_eff hB hX hb) (hO.tr hOx) hg' he) ⟨rfl, rfl, trivial⟩
          · refine z_iload_n dX4_perform_52 rfl ?_
            refine z_bipush dX4_perform_53 (by decide) ?_
            refine z_icmp_eq (tgt := 82) dX4_perform_55 (by decide) (by omega) (by omega) (fun c55 => ?_) (fun c55 => ?_)
            · refine z_iinc dX4_perform_82 rfl (by decide) ?_
              refine z_goto (tgt := 31) dX4_perform_85 (by decide) ?_
              have hz1 : (d + 1).toNat = d.toNat + 1 := by omega
              have hz2 : zq T l (d + 1).toNat = (pT T l (zq T l d.toNat)).2 + 1 := by rw [hz1]; rfl
              have hg' : d + 1 < K → pG T l (K - (d + 1)).toNat (zq T l (d + 1).toNat) := fun q => by rw [hz2]; exact hnx.resolve_left (by omega)
              rw [pD_s, ← hz2] at he
              rcases hx with ⟨hb, hxe, hMe⟩ | ⟨hb, hx0, hRx, hOx⟩
              · have hb5 : sBarK τ (pN T l (zq T l d.toNat)) (p1 T l (zq T l d.toNat)) (p2 T l (zq T l d.toNat)) (p3 T l (zq T l d.toNat)) = -5 := by omega
                rw [if_neg (by omega), if_pos hb5] at he
                rw [hMe]
                exact zsub' (ih (d + 1) _ τ (by omega) (by omega) hR hB hX hO hg' he) ⟨rfl, rfl, trivial⟩
              · rw [if_pos hb] at he
                exact zsub' (ih (d + 1) _ _ (by omega) (by omega) hRx (zB_eff hB hb).1 (zX_eff hB hX hb) (hO.tr hOx) hg' he) ⟨rfl, rfl, trivial⟩
            · obtain ⟨hb, hxe, hMe⟩ := hx.resolve_right (fun q => by have := q.2.1; omega)
              refine z_aload_n dX4_perform_58 rfl ?_
              refine z_iload_n dX4_perform_59 rfl ?_
              refine z_nput (kI := 7) dX4_perform_60 fX4_47 rfl (Or.inl rfl) (by decide) (zsh175) rfl rfl (fun N60 hN60 => ?_)
              refine z_aload_n dX4_perform_63 rfl ?_
              refine z_iload_n dX4_perform_64 rfl ?_
              refine z_nput (kI := 8) dX4_perform_65 fX4_51 rfl (Or.inl rfl) (by decide) (zsh175) rfl rfl (fun N65 hN65 => ?_)
              refine z_aload_n dX4_perform_68 rfl ?_
              refine z_getR (b := 0) dX4_perform_69 fX4_12 (by decide) (zsh175) rfl rfl ?_
              refine z_aload_n dX4_perform_72 rfl ?_
              refine z_getR (b := 25) dX4_perform_73 fX4_16 (by decide) (zsh175) rfl rfl ?_
              refine z_callV mX1_copyFrom (vX1_copyFrom zP_0 zP_25 (by decide) (hR25.mv (fun a q1 q2 => by rw [hN65, zm_up_off (by omega), hN60, zm_up_off (by omega), hMe]; exact hO a (by omega))) hI) rfl dX4_perform_76 kX4_54 (by decide) rfl (by show _ ≤ 8; simp) (zP_r0 (zP_0)) (zm_sh_p0 (zP_0)) (by decide) rfl (fun v76 M76 q76 => ?_)
              obtain ⟨rfl, hR76, hO76⟩ := q76
              try simp only [zpush]
              refine z_bipush dX4_perform_79 (by decide) ?_
              refine z_iret dX4_perform_81 rfl ?_
              have eD : pD T l K.toNat 0 0 σ = ((x44, d), τ) := by rw [← he, pD_s, if_neg (by omega), if_neg (by omega), ← hxe]
              refine Or.inr (Or.inl ⟨hR0, ?_, rfl, hR76, fun a ha => ?_, ?_, fun j q1 q2 => ?_, ?_, ?_⟩)
              · rw [hK, eD]
                show ¬ x44 = 0
                omega
              · have e1 : M76 a = M26 a := by rw [hO76 a (by omega), hN65, zm_up_off (by omega), hN60, zm_up_off (by omega), hMe]; exact hO a (by omega)
                rw [e1, hO25 a (by omega)]
                exact hC4.1 a (by omega)
              · rw [hO76 178 (by omega), hN65, zm_up_off (by omega), hN60, zm_up_off (by omega), hMe, hO 178 (by omega), hO25 178 (by omega)]
                exact hC4.2
              · rw [hO76 175 (by omega), hN65, zm_up_ne q2, hN60, zm_up_ne q1, hMe, hO 175 (by omega), hO25 175 (by omega), hC4.1 175 (by omega)]
              · rw [hK, eD, hO76 175 (by omega), hN65, zm_up_ne (by omega), hN60, zm_up_at]
              · rw [hK, eD, hO76 175 (by omega), hN65, zm_up_at]
    exact zsub' (L (K + 1).toNat 0 M26 σ (by omega) (by omega) hR00 hB hX (zOff.rf M26 0) (fun _ => hG.2.2) (by rw [Int.sub_zero]; rfl)) ⟨rfl, rfl, trivial⟩
  · refine z_bipush dX4_perform_13 (by decide) ?_
    refine z_iload_n dX4_perform_15 rfl ?_
    refine z_isub dX4_perform_16 ?_
    refine z_iret dX4_perform_17 rfl ?_
    obtain ⟨hr1, hr2⟩ := hr.resolve_left (fun q => by omega)
    exact Or.inl ⟨hr1, by rw [hr2], ⟨fun a ha => hC4.1 a (by omega), hC4.2⟩⟩

