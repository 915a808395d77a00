theorem vX1_passTurn {G : zG} {M : zM} {σ : zS} {p : Int} (hp : zP p) (hR : zRel M p σ) (hA : zA σ) (hX : zX σ) (ht : 0 ≤ σ 536 ∧ σ 536 ≤ 1000000) : zCall G yX1_passTurn YX1_passTurn [.inr (some p)] M (fun v M' => v = none ∧ zRel M' p (sTurn σ) ∧ zOff M M' p) := by
  refine zEnter (by decide +kernel) rfl (Nat.le_of_ble_eq_true rfl) ?_
  have hI := hA.1
  have hs9 := hI.1
  unfold zIs at hs9
  have hR5 := hR.2.2.2.2.2.1
  have hR6 := hR.2.2.2.2.2.2
  have hR4 := hR.2.2.2.2.1
  refine z_iconst dX1_passTurn_0 ?_
  refine z_istore_n dX1_passTurn_1 (by decide) ?_
  have L : ∀ (n : Nat) (i : Int) (N : zM) (τ : zS), (0 ≤ i ∧ i ≤ σ 535) → (i + n = σ 535 + 1) → (zRel N p τ) → (zA τ) → (zX τ) → (zOff M N p) → (∀ j : Int, 531 ≤ j → j < 537 → τ j = σ j) → (zfor (fun k s => sAct s k) i (σ 535) τ = sAll σ) → zW G YX1_passTurn (fun v M' => v = none ∧ zRel M' p (sTurn σ) ∧ zOff M M' p) 2 [(1, .inl i), (0, .inr (some p))] [] N := by
    intro n
    induction n with
    | zero => intro i N τ hi hin hR hA hX hO hq he; exfalso; omega
    | succ n ih =>
      intro i N τ hi hin hR hA hX hO hq he
      have hI := hA.1
      have hs8 := hI.1
      unfold zIs at hs8
      have hR5 := hR.2.2.2.2.2.1
      have e5 := hq 535 (by omega) (by omega)
      refine z_iload_n dX1_passTurn_2 rfl ?_
      refine z_aload_n dX1_passTurn_3 rfl ?_
      refine z_getI (kI := 15) dX1_passTurn_4 fX1_67 (zP_r0 hp) (zm_sh_p0 hp) rfl rfl ?_
      refine z_icmp_ge (tgt := 52) dX1_passTurn_7 (by decide) (by omega) (by omega) (fun c7 => ?_) (fun c7 => ?_)
      · rw [zfor_end (by omega)] at he
        subst he
        refine z_aload_n dX1_passTurn_52 rfl ?_
        refine z_iconst dX1_passTurn_53 ?_
        refine z_callV mX1_dryTrails (vX1_dryTrails hp (by omega) (rel_hC hR hI) (rel_hS hR hI)) rfl dX1_passTurn_54 kX1_111 (by decide) rfl (by show _ ≤ 8; simp) (zP_r0 hp) (zm_sh_p0 hp) (by decide) rfl (fun v54 M54 q54 => ?_)
        obtain ⟨rfl, hD⟩ := q54
        try simp only [zpush]
        have hR2 := rel_dryA hR hI hD
        have hIa := zI_age hI hA.2.1
        have hI2 := zI_dry hIa
        have e536 : sDry (sAge (sAll σ)) 536 = σ 536 := by rw [sDry_o _ (by omega), sAge_o _ (by omega)]; exact hq 536 (by omega) (by omega)
        have e534 : sDry (sAge (sAll σ)) 534 = σ 534 := by rw [sDry_o _ (by omega), sAge_o _ (by omega)]; exact hq 534 (by omega) (by omega)
        refine z_aload_n dX1_passTurn_57 rfl ?_
        refine z_dup dX1_passTurn_58 ?_
        refine z_getI (kI := 16) dX1_passTurn_59 fX1_71 (zP_r0 hp) (zm_sh_p0 hp) rfl rfl ?_
        refine z_iconst dX1_passTurn_62 ?_
        refine z_iadd dX1_passTurn_63 ?_
        refine z_nput (kI := 16) dX1_passTurn_64 fX1_71 rfl (Or.inl rfl) (zP_r0 hp) (zm_sh_p0 hp) rfl rfl (fun N64 hN64 => ?_)
        rw [hR2.2.2.2.2.2.2] at hN64
        have hR3 := rel_tick hR2 hI2
        rw [← hN64] at hR3
        have hI3 := zI_tick hI2
        have f536 : sTick (sDry (sAge (sAll σ))) 536 = σ 536 + 1 := by rw [← e536]; exact zu_at
        have f534 : sTick (sDry (sAge (sAll σ))) 534 = σ 534 := by rw [← e534]; exact zu_ne (by omega)
        have g536 : N64 p 16 = σ 536 + 1 := by rw [hR3.2.2.2.2.2.2, f536]
        have g534 : N64 (p + 24) 3 = σ 534 := by rw [hR3.2.2.2.2.1.2.2.2, f534]
        have hO3 : zOff M N64 p := fun a ha => by rw [hN64, zm_up_off (by omega), hD.off a ha]; exact hO a ha
        refine z_aload_n dX1_passTurn_67 rfl ?_
        refine z_getR (b := (p + 24)) dX1_passTurn_68 fX1_64 (zP_r0 hp) (zm_sh_p0 hp) rfl rfl ?_
        refine z_iconst dX1_passTurn_71 ?_
        refine z_iaload dX1_passTurn_72 (zP_r hp 24 (by decide)) (zm_sh_p hp 24 (by decide)) (by omega) (by decide) ?_
        rw [g534]
        refine z_istore_n dX1_passTurn_73 (by decide) ?_
        refine z_iload_n dX1_passTurn_74 rfl ?_
        refine z_if_le (tgt := 91) dX1_passTurn_75 (by decide) (by omega) (fun c75 => ?_) (fun c75 => ?_)
        · refine z_vret dX1_passTurn_91 rfl ?_
          first
            | (refine ⟨rfl, ?_, hO3.tr hG.off⟩; unfold sTurn sG; rw [f536, f534, if_pos (by omega)]; exact rel_growS hR3 hI3 hG)
            | (refine ⟨rfl, ?_, hO3⟩; unfold sTurn sG; rw [f536, f534, if_neg (by omega), sGrow_0]; exact hR3)
            | (exfalso; omega)
        · refine z_aload_n dX1_passTurn_78 rfl ?_
          refine z_getI (kI := 16) dX1_passTurn_79 fX1_71 (zP_r0 hp) (zm_sh_p0 hp) rfl rfl ?_
          rw [g536]
          refine z_iload_n dX1_passTurn_82 rfl ?_
          refine z_irem dX1_passTurn_83 (by omega) (by omega) ?_
          have hmd := Int.emod_nonneg (σ 536 + 1) (show σ 534 ≠ 0 by omega)
          have hmd2 := Int.emod_lt_of_pos (σ 536 + 1) (show 0 < σ 534 by omega)
          refine z_if_ne (tgt := 91) dX1_passTurn_84 (by decide) (by omega) (fun c84 => ?_) (fun c84 => ?_)
          · refine z_vret dX1_passTurn_91 rfl ?_
            first
              | (refine ⟨rfl, ?_, hO3.tr hG.off⟩; unfold sTurn sG; rw [f536, f534, if_pos (by omega)]; exact rel_growS hR3 hI3 hG)
              | (refine ⟨rfl, ?_, hO3⟩; unfold sTurn sG; rw [f536, f534, if_neg (by omega), sGrow_0]; exact hR3)
              | (exfalso; omega)
          · refine z_aload_n dX1_passTurn_87 rfl ?_
            refine z_callV mX1_growFrost (vX1_growFrost hp (rel_hF hR3 hI3)) rfl dX1_passTurn_88 kX1_138 (by decide) rfl (by show _ ≤ 8; simp) (zP_r0 hp) (zm_sh_p0 hp) (by decide) rfl (fun v88 M88 q88 => ?_)
            obtain ⟨rfl, hG⟩ := q88
            try simp only [zpush]
            refine z_vret dX1_passTurn_91 rfl ?_
            first
              | (refine ⟨rfl, ?_, hO3.tr hG.off⟩; unfold sTurn sG; rw [f536, f534, if_pos (by omega)]; exact rel_growS hR3 hI3 hG)
              | (refine ⟨rfl, ?_, hO3⟩; unfold sTurn sG; rw [f536, f534, if_neg (by omega), sGrow_0]; exact hR3)
              | (exfalso; omega)
      · refine z_aload_n dX1_passTurn_10 rfl ?_
        refine z_iload_n dX1_passTurn_11 rfl ?_
        refine z_callV mX1_creeps (vX1_creeps hp hR (by omega) hI) rfl dX1_passTurn_12 kX1_95 (by decide) rfl (by show _ ≤ 8; simp) (zP_r0 hp) (zm_sh_p0 hp) (by decide) rfl (fun v12 M12 q12 => ?_)
        obtain ⟨rfl, b12, rfl, h12⟩ := q12
        try simp only [zpush]
        refine z_if_eq (tgt := 46) dX1_passTurn_15 (by decide) (by omega) (fun c15 => ?_) (fun c15 => ?_)
        · refine z_iinc dX1_passTurn_46 rfl (by decide) ?_
          refine z_goto (tgt := 2) dX1_passTurn_49 (by decide) ?_
          refine zsub' (ih (i + 1) _ (sAct τ i) (by omega) (by omega) ?_ (zA_act hA (by omega)).1 (zX_act hI hX (by omega)) ?_ (fun j q1 q2 => ((zA_act hA (by omega)).2 j q1 q2).trans (hq j q1 q2)) (by rw [zfor_step (by omega)] at he; exact he)) ⟨rfl, rfl, trivial⟩
          · unfold sAct
            first
            | (rw [if_pos (by omega), if_pos (by omega)]; exact hR35)
            | (rw [if_pos (by omega), if_neg (by omega)]; exact hR43)
            | (rw [if_neg (by omega)]; exact hR)
          · first
            | exact hO.tr hO35
            | exact hO.tr hO43
            | exact hO
        · refine z_aload_n dX1_passTurn_18 rfl ?_
          refine z_iload_n dX1_passTurn_19 rfl ?_
          refine z_callV mX1_choice (vX1_choice hp hR (by omega) hI) rfl dX1_passTurn_20 kX1_125 (by decide) rfl (by show _ ≤ 8; simp) (zP_r0 hp) (zm_sh_p0 hp) (by decide) rfl (fun v20 M20 q20 => ?_)
          obtain ⟨rfl, rfl⟩ := q20
          try simp only [zpush]
          have hcr := sCh_r τ i
          have h3 : ((zm_st 0).2.length : Int) = 3 := rfl
          refine z_istore_n dX1_passTurn_23 (by decide) ?_
          refine z_iload_n dX1_passTurn_24 rfl ?_
          refine z_getstN (t := 0) dX1_passTurn_25 (by decide) sX1_128 ?_
          refine z_stlen dX1_passTurn_28 rfl (by decide) ?_
          refine z_icmp_ge (tgt := 41) dX1_passTurn_29 (by decide) (by omega) (by decide) (fun c29 => ?_) (fun c29 => ?_)
          · refine z_aload_n dX1_passTurn_41 rfl ?_
            refine z_iload_n dX1_passTurn_42 rfl ?_
            refine z_callV mX1_rest (vX1_rest hp hR (by omega) hI) rfl dX1_passTurn_43 kX1_135 (by decide) rfl (by show _ ≤ 8; simp) (zP_r0 hp) (zm_sh_p0 hp) (by decide) rfl (fun v43 M43 q43 => ?_)
            obtain ⟨rfl, hR43, hO43⟩ := q43
            try simp only [zpush]
            refine z_iinc dX1_passTurn_46 rfl (by decide) ?_
            refine z_goto (tgt := 2) dX1_passTurn_49 (by decide) ?_
            refine zsub' (ih (i + 1) _ (sAct τ i) (by omega) (by omega) ?_ (zA_act hA (by omega)).1 (zX_act hI hX (by omega)) ?_ (fun j q1 q2 => ((zA_act hA (by omega)).2 j q1 q2).trans (hq j q1 q2)) (by rw [zfor_step (by omega)] at he; exact he)) ⟨rfl, rfl, trivial⟩
            · unfold sAct
              first
              | (rw [if_pos (by omega), if_pos (by omega)]; exact hR35)
              | (rw [if_pos (by omega), if_neg (by omega)]; exact hR43)
              | (rw [if_neg (by omega)]; exact hR)
            · first
              | exact hO.tr hO35
              | exact hO.tr hO43
              | exact hO
          · have hl := sCh_lt (σ := τ) (k := i) (by omega)
            refine z_aload_n dX1_passTurn_32 rfl ?_
            refine z_iload_n dX1_passTurn_33 rfl ?_
            refine z_iload_n dX1_passTurn_34 rfl ?_
            refine z_callV mX1_takeStep (vX1_takeStep hp hR ⟨hI, by omega, hl.1, hl.2.1⟩ (by omega) hX (hX.r (by omega)).1) rfl dX1_passTurn_35 kX1_131 (by decide) rfl (by show _ ≤ 8; simp) (zP_r0 hp) (zm_sh_p0 hp) (by decide) rfl (fun v35 M35 q35 => ?_)
            obtain ⟨rfl, hR35, hO35⟩ := q35
            try simp only [zpush]
            refine z_goto (tgt := 46) dX1_passTurn_38 (by decide) ?_
            refine z_iinc dX1_passTurn_46 rfl (by decide) ?_
            refine z_goto (tgt := 2) dX1_passTurn_49 (by decide) ?_
            refine zsub' (ih (i + 1) _ (sAct τ i) (by omega) (by omega) ?_ (zA_act hA (by omega)).1 (zX_act hI hX (by omega)) ?_ (fun j q1 q2 => ((zA_act hA (by omega)).2 j q1 q2).trans (hq j q1 q2)) (by rw [zfor_step (by omega)] at he; exact he)) ⟨rfl, rfl, trivial⟩
            · unfold sAct
              first
              | (rw [if_pos (by omega), if_pos (by omega)]; exact hR35)
              | (rw [if_pos (by omega), if_neg (by omega)]; exact hR43)
              | (rw [if_neg (by omega)]; exact hR)
            · first
              | exact hO.tr hO35
              | exact hO.tr hO43
              | exact hO
  exact zsub' (L (σ 535 + 1).toNat 0 M σ (by omega) (by omega) hR hA hX (zOff.rf M p) (fun _ _ _ => rfl) rfl) ⟨rfl, rfl, trivial⟩

theorem vX1_letPass {G : zG} {M : zM} {σ : zS} {p t : Int} (hp : zP p) (hR : zRel M p σ) (ht : -2147483648 ≤ t ∧ t < 2147483648) (hA : zA σ) (hX : zX σ) (ht : 0 ≤ σ 536 ∧ σ 536 ≤ 99999) : zCall G yX1_letPass YX1_letPass [.inr (some p), .inl t] M (fun v M' => (sBarT σ t < 0 ∧ v = some (.inl (sBarT σ t)) ∧ M' = M) ∨ (sBarT σ t = 0 ∧ v = some (.inl (sTs t σ 537 - σ 537)) ∧ zRel M' p (sTs t σ) ∧ zOff M M' p)) := by
  refine zEnter (by decide +kernel) rfl (Nat.le_of_ble_eq_true rfl) ?_
  have hI := hA.1
  have hs9 := hI.1
  unfold zIs at hs9
  have hR5 := hR.2.2.2.2.2.1
  have hR6 := hR.2.2.2.2.2.2
  have hR4 := hR.2.2.2.2.1
  refine z_iload_n dX1_letPass_0 rfl ?_
  refine z_iconst dX1_letPass_1 ?_
  refine z_icmp_lt (tgt := 11) dX1_letPass_2 (by decide) (by omega) (by omega) (fun c2 => ?_) (fun c2 => ?_)
  · refine z_bipush dX1_letPass_11 (by decide) ?_
    refine z_iret dX1_letPass_13 rfl ?_
    have hb : sBarT σ t = -2 := by
      unfold sBarT
      repeat' split
      all_goals first | rfl | omega
    exact Or.inl ⟨by omega, by rw [hb], rfl⟩
  · refine z_iload_n dX1_letPass_5 rfl ?_
    refine z_bipush dX1_letPass_6 (by decide) ?_
    refine z_icmp_le (tgt := 14) dX1_letPass_8 (by decide) (by omega) (by omega) (fun c8 => ?_) (fun c8 => ?_)
    · refine z_aload_n dX1_letPass_14 rfl ?_
      refine z_getI (kI := 16) dX1_letPass_15 fX1_71 (zP_r0 hp) (zm_sh_p0 hp) rfl rfl ?_
      refine z_iload_n dX1_letPass_18 rfl ?_
      refine z_iadd dX1_letPass_19 ?_
      refine z_ldc (n := 99999) dX1_letPass_20 qX1_114 ?_
      refine z_icmp_le (tgt := 28) dX1_letPass_22 (by decide) (by omega) (by omega) (fun c22 => ?_) (fun c22 => ?_)
      · refine z_aload_n dX1_letPass_28 rfl ?_
        refine z_iconst dX1_letPass_29 ?_
        refine z_callV mX1_howManyAre (vX1_howManyAre hp hR (by omega) hI) rfl dX1_letPass_30 kX1_115 (by decide) rfl (by show _ ≤ 8; simp) (zP_r0 hp) (zm_sh_p0 hp) (by decide) rfl (fun v30 M30 q30 => ?_)
        obtain ⟨rfl, rfl⟩ := q30
        try simp only [zpush]
        rw [← hX.2.2.1]
        refine z_istore_n dX1_letPass_33 (by decide) ?_
        refine z_iconst dX1_letPass_34 ?_
        refine z_istore_n dX1_letPass_35 (by decide) ?_
        have L : ∀ (n : Nat) (i : Int) (N : zM) (τ : zS), (0 ≤ i ∧ i ≤ t) → (i + n = t + 1) → (zRel N p τ) → (zA τ) → (zX τ) → (zOff M N p) → (τ 536 = σ 536 + i) → (zfor (fun _ s => sTurn s) i t τ = sTs t σ) → zW G YX1_letPass (fun v M' => (sBarT σ t < 0 ∧ v = some (.inl (sBarT σ t)) ∧ M' = M) ∨ (sBarT σ t = 0 ∧ v = some (.inl (sTs t σ 537 - σ 537)) ∧ zRel M' p (sTs t σ) ∧ zOff M M' p)) 36 [(3, .inl i), (0, .inr (some p)), (1, .inl t), (2, .inl (σ 537))] [] N := by
          intro n
          induction n with
          | zero => intro i N τ hi hin hR hA hX hO h6 he; exfalso; omega
          | succ n ih =>
            intro i N τ hi hin hR hA hX hO h6 he
            have hI := hA.1
            have hs8 := hI.1
            unfold zIs at hs8
            refine z_iload_n dX1_letPass_36 rfl ?_
            refine z_iload_n dX1_letPass_37 rfl ?_
            refine z_icmp_ge (tgt := 51) dX1_letPass_38 (by decide) (by omega) (by omega) (fun c38 => ?_) (fun c38 => ?_)
            · rw [zfor_end (by omega)] at he
              subst he
              refine z_aload_n dX1_letPass_51 rfl ?_
              refine z_iconst dX1_letPass_52 ?_
              refine z_callV mX1_howManyAre (vX1_howManyAre hp hR (by omega) hI) rfl dX1_letPass_53 kX1_115 (by decide) rfl (by show _ ≤ 8; simp) (zP_r0 hp) (zm_sh_p0 hp) (by decide) rfl (fun v53 M53 q53 => ?_)
              obtain ⟨rfl, rfl⟩ := q53
              try simp only [zpush]
              rw [← hX.2.2.1]
              refine z_iload_n dX1_letPass_56 rfl ?_
              refine z_isub dX1_letPass_57 ?_
              refine z_iret dX1_letPass_58 rfl ?_
              refine Or.inr ⟨?_, rfl, hR, hO⟩
              unfold sBarT
              rw [if_neg (by omega), if_neg (by omega)]
            · refine z_aload_n dX1_letPass_41 rfl ?_
              refine z_callV mX1_passTurn (vX1_passTurn hp hR hA hX (by omega)) rfl dX1_letPass_42 kX1_119 (by decide) rfl (by show _ ≤ 8; simp) (zP_r0 hp) (zm_sh_p0 hp) (by decide) rfl (fun v42 M42 q42 => ?_)
              obtain ⟨rfl, hR42, hO42⟩ := q42
              try simp only [zpush]
              refine z_iinc dX1_letPass_45 rfl (by decide) ?_
              refine z_goto (tgt := 36) dX1_letPass_48 (by decide) ?_
              refine zsub' (ih (i + 1) _ (sTurn τ) (by omega) (by omega) hR42 (zA_turn hA).1 (zX_turn hA hX) (hO.tr hO42) (by rw [(zA_turn hA).2.1]; omega) (by rw [zfor_step (by omega)] at he; exact he)) ⟨rfl, rfl, rfl, rfl, trivial⟩
        exact zsub' (L (t + 1).toNat 0 M σ (by omega) (by omega) hR hA hX (zOff.rf M p) (by omega) rfl) ⟨rfl, rfl, rfl, rfl, trivial⟩
      · refine z_bipush dX1_letPass_25 (by decide) ?_
        refine z_iret dX1_letPass_27 rfl ?_
        have hb : sBarT σ t = -3 := by
          unfold sBarT
          repeat' split
          all_goals first | rfl | omega
        exact Or.inl ⟨by omega, by rw [hb], rfl⟩
    · refine z_bipush dX1_letPass_11 (by decide) ?_
      refine z_iret dX1_letPass_13 rfl ?_
      have hb : sBarT σ t = -2 := by
        unfold sBarT
        repeat' split
        all_goals first | rfl | omega
      exact Or.inl ⟨by omega, by rw [hb], rfl⟩

theorem vX1_passUntilEnd {G : zG} {M : zM} {σ : zS} {p k m : Int} (hp : zP p) (hR : zRel M p σ) (hk : 0 ≤ k ∧ k < σ 535) (hm : 0 ≤ m ∧ m ≤ 300) (hA : zA σ) (hX : zX σ) (ht : 0 ≤ σ 536 ∧ σ 536 ≤ 99999) (h3 : σ (360 + 10 * k + 3) = 0) : zCall G yX1_passUntilEnd YX1_passUntilEnd [.inr (some p), .inl k, .inl m] M (fun v M' => v = some (.inl (if 1 ≤ sEnds k 0 σ ∧ sEnds k 0 σ ≤ m then sEnds k 0 σ else -5)) ∧ (∀ a : Int, (a < p ∨ p + 25 ≤ a) → M' a = M a)) := by
  refine zEnter (by decide +kernel) rfl (Nat.le_of_ble_eq_true rfl) ?_
  have hI := hA.1
  have hs9 := hI.1
  unfold zIs at hs9
  have hR5 := hR.2.2.2.2.2.1
  have hR6 := hR.2.2.2.2.2.2
  have hR4 := hR.2.2.2.2.1
  refine z_iconst dX1_passUntilEnd_0 ?_
  refine z_istore_n dX1_passUntilEnd_1 (by decide) ?_
  have L : ∀ (n : Nat) (i : Int) (N : zM) (τ : zS), (1 ≤ i ∧ i ≤ m + 1) → (i + n = m + 2) → (zRel N p τ) → (zA τ) → (zX τ) → (zOff M N p) → (τ 536 = σ 536 + i - 1) → (τ 535 = σ 535) → (τ (360 + 10 * k + 3) = 0) → (sEnds k (i - 1) τ = sEnds k 0 σ) → zW G YX1_passUntilEnd (fun v M' => v = some (.inl (if 1 ≤ sEnds k 0 σ ∧ sEnds k 0 σ ≤ m then sEnds k 0 σ else -5)) ∧ (∀ a : Int, (a < p ∨ p + 25 ≤ a) → M' a = M a)) 2 [(3, .inl i), (0, .inr (some p)), (1, .inl k), (2, .inl m)] [] N := by
    intro n
    induction n with
    | zero => intro i N τ hi hin hR hA hX hO h6 h5 h3 he; exfalso; omega
    | succ n ih =>
      intro i N τ hi hin hR hA hX hO h6 h5 h3 he
      refine z_iload_n dX1_passUntilEnd_2 rfl ?_
      refine z_iload_n dX1_passUntilEnd_3 rfl ?_
      refine z_icmp_gt (tgt := 27) dX1_passUntilEnd_4 (by decide) (by omega) (by omega) (fun c4 => ?_) (fun c4 => ?_)
      · refine z_bipush dX1_passUntilEnd_27 (by decide) ?_
        refine z_iret dX1_passUntilEnd_29 rfl ?_
        refine ⟨?_, hO⟩
        rw [if_neg]
        have hE : sEnds k (i - 1) τ = -5 ∨ i ≤ sEnds k (i - 1) τ := by
          by_cases h30 : i - 1 < 300
          · rw [sEnds_step h30, if_pos h3]
            have := sEnds_r k (i - 1 + 1) (sTurn τ) (by omega)
            omega
          · rw [sEnds_end (by omega), if_neg (by omega)]
            exact Or.inl rfl
        omega
      · have hI := hA.1
        have hs8 := hI.1
        unfold zIs at hs8
        rw [sEnds_step (by omega), if_pos h3, show i - 1 + 1 = i from by omega] at he
        refine z_aload_n dX1_passUntilEnd_7 rfl ?_
        refine z_callV mX1_passTurn (vX1_passTurn hp hR hA hX (by omega)) rfl dX1_passUntilEnd_8 kX1_119 (by decide) rfl (by show _ ≤ 8; simp) (zP_r0 hp) (zm_sh_p0 hp) (by decide) rfl (fun v8 M8 q8 => ?_)
        obtain ⟨rfl, hR7, hO7⟩ := q8
        try simp only [zpush]
        have hA7 := (zA_turn hA).1
        have hI7 := hA7.1
        have h57 := (zA_turn hA).2.2 535 (by omega) (by omega)
        have h67 := (zA_turn hA).2.1
        have h37 := sTurn_3 hA (k := k) (by omega) (by omega)
        have hk7 := hI7.2.2 k (by omega) (by omega)
        unfold zIk at hk7
        refine z_aload_n dX1_passUntilEnd_11 rfl ?_
        refine z_iload_n dX1_passUntilEnd_12 rfl ?_
        refine z_callV mX1_hasEnded (vX1_hasEnded hp hR7 (by omega) hI7) rfl dX1_passUntilEnd_13 kX1_122 (by decide) rfl (by show _ ≤ 8; simp) (zP_r0 hp) (zm_sh_p0 hp) (by decide) rfl (fun v13 M13 q13 => ?_)
        obtain ⟨rfl, b13, rfl, h13⟩ := q13
        try simp only [zpush]
        refine z_if_eq (tgt := 21) dX1_passUntilEnd_16 (by decide) (by omega) (fun c16 => ?_) (fun c16 => ?_)
        · refine z_iinc dX1_passUntilEnd_21 rfl (by decide) ?_
          refine z_goto (tgt := 2) dX1_passUntilEnd_24 (by decide) ?_
          refine zsub' (ih (i + 1) _ (sTurn τ) (by omega) (by omega) hR7 hA7 (zX_turn hA hX) (hO.tr hO7) (by omega) (by omega) (by omega) (by rw [show i + 1 - 1 = i from by omega]; exact he)) ⟨rfl, rfl, rfl, rfl, trivial⟩
        · refine z_iload_n dX1_passUntilEnd_19 rfl ?_
          refine z_iret dX1_passUntilEnd_20 rfl ?_
          have hE : sEnds k i (sTurn τ) = i := by
            by_cases h30 : i < 300
            · rw [sEnds_step h30, if_neg (by omega), if_pos (by omega)]
            · rw [sEnds_end (by omega), if_pos (by omega)]
          rw [hE] at he
          exact ⟨by rw [if_pos (by omega), he], (hO.tr hO7)⟩
  exact zsub' (L (m + 1).toNat 1 M σ (by omega) (by omega) hR hA hX (zOff.rf M p) (by omega) rfl h3 rfl) ⟨rfl, rfl, rfl, rfl, trivial⟩

