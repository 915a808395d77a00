def zFl (F : zS) : zS := fun j => F ((j - 363) / 10)
theorem zFl_e (F : zS) (k : Int) : zFl F (360 + 10 * k + 3) = F k := by
  unfold zFl
  rw [show (360 + 10 * k + 3 - 363) / 10 = k by omega]
/-- how many cells are settled -/
def zSt (F : zS) : Int := zfor (sInF (zFl F) 1) 0 120 0
theorem zSt_up {F F' : zS} {c : Int} (hc : 0 ≤ c ∧ c < 120) (h0 : F c = 0) (h1 : F' c = 1) (ho : ∀ x : Int, x ≠ c → F' x = F x) : zSt F' = zSt F + 1 := by
  have := sInF_u (zFl F) (zFl F') 1 120 c 1 (by unfold sInF; rw [zFl_e, zFl_e, h0, h1]; rfl) (fun a _ _ q => by rw [zFl_e, zFl_e, ho a q]) 120 0 0 (by omega) (by omega)
  rw [if_pos hc] at this
  exact this
theorem zSt_r (F : zS) : 0 ≤ zSt F ∧ zSt F ≤ 120 := by
  have := sInF_r (zFl F) 1 120 120 0 0 (by omega)
  unfold zSt
  omega
theorem zSt_lt {F : zS} {c : Int} (hc : 0 ≤ c ∧ c < 120) (h0 : F c = 0) : zSt F ≤ 119 := by
  have h1 := zSt_up (F := F) (F' := zu F c 1) hc h0 zu_at (fun x q => zu_ne q)
  have := zSt_r (zu F c 1)
  omega
theorem zSt_0 {F : zS} (h : ∀ x : Int, 0 ≤ x → x < 120 → F x = 0) : zSt F = 0 := by
  unfold zSt
  rw [zfor_cut (j := 0) (by omega) (fun i q1 q2 x => by unfold sInF; rw [zFl_e, h i q1 q2]; simp) 120 0 0 (by omega), zfor_end (by omega)]
/-- what the rounds keep: S sums, F settled; D what is sought -/
def zDj (S F σ : zS) (D : Int) : Prop := (∀ x : Int, 0 ≤ x → x < 120 → (0 ≤ S x ∧ S x ≤ 1000000) ∧ (F x = 0 ∨ F x = 1)) ∧ (∀ x : Int, 0 ≤ x → x < 120 → S x < 1000000 → D ≤ S x + zU σ x) ∧ (∀ x y : Int, 0 ≤ x → x < 120 → 0 ≤ y → y < 120 → F x = 1 → F y = 0 → S x ≤ S y) ∧ ∃ w : Int, (0 ≤ w ∧ w < 120) ∧ F w = 0 ∧ S w < 1000000 ∧ S w + zU σ w ≤ D
theorem zDj.st {S S' F σ : zS} {D c : Int} (h : zDj S F σ D) (h190 : D ≤ 190) (hI : zI σ) (hc : 0 ≤ c ∧ c < 114) (hF : F c = 0) (hl : S c < 1000000) (hm : ∀ y : Int, 0 ≤ y → y < 120 → F y = 0 → S c ≤ S y) (hX : zRx S S' σ c 3) : zDj S' (zu F c 1) σ D := by
  obtain ⟨h1, h2, h3, w, hw, hw0, hw1, hw2⟩ := h
  have hpos : ∀ s : Int, zIn c s → 0 ≤ σ (zAb c s) := fun s q => by
    have r := zAb_r hc q
    have := hI.2.1 (zAb c s) (by omega) (by omega)
    unfold zIc at this
    omega
  have hSc := h1 c (by omega) (by omega)
  refine ⟨fun x q1 q2 => ⟨⟨?_, ?_⟩, ?_⟩, fun x q1 q2 q3 => ?_, fun x y q1 q2 q3 q4 q5 q6 => ?_, ?_⟩
  · have := h1 x q1 q2
    rcases hX.2.1 x with e | ⟨⟨s, s1, s2, s3⟩, e⟩
    · omega
    · have := hpos s s2
      rw [← s3] at this
      omega
  · have := h1 x q1 q2
    have := hX.1 x
    omega
  · by_cases e : x = c
    · subst e; exact Or.inr zu_at
    · rw [zu_ne e]; exact (h1 x q1 q2).2
  · rcases hX.2.1 x with e | ⟨⟨s, s1, s2, s3⟩, e⟩
    · rw [e] at q3 ⊢
      exact h2 x q1 q2 q3
    · have k1 := h2 c (by omega) (by omega) hl
      have k2 := zU_le hI hc s1 s2
      rw [← s3] at k2
      omega
  · have hyc : y ≠ c := fun e => by
      subst e
      rw [zu_at] at q6
      exact absurd q6 (by decide)
    rw [zu_ne hyc] at q6
    have ky : S c ≤ S y := hm y q3 q4 q6
    have ky' : S c ≤ S' y := by
      rcases hX.2.1 y with e | ⟨⟨s, s1, s2, s3⟩, e⟩
      · omega
      · have := hpos s s2
        rw [← s3] at this
        omega
    have kx : S x ≤ S c := by
      by_cases e : x = c
      · rw [e]; exact Int.le_refl _
      · rw [zu_ne e] at q5
        exact h3 x c q1 q2 (by omega) (by omega) q5 hF
    have := hX.1 x
    omega
  · by_cases e : w = c
    · subst e
      obtain ⟨s, s1, s2, s3⟩ := zU_ex hI hc
      have r := zAb_r hc s2
      have hp := hpos s s2
      have hle := hX.2.2 s s1.1 (by omega) s2
      have hUa := zU_r hI (c := zAb w s) (by omega)
      have hUw := zU_r hI (c := w) hw
      have hD : D ≤ S w + zU σ w := h2 w hw.1 hw.2 hw1
      have hFa : F (zAb w s) = 0 := by
        rcases (h1 (zAb w s) (by omega) (by omega)).2 with q | q
        · exact q
        · exfalso
          have k := h3 (zAb w s) w (by omega) (by omega) hw.1 hw.2 q hF
          have k2 := h2 (zAb w s) (by omega) (by omega) (by omega)
          omega
      have hD2 : D ≤ 190 ∨ 190 < D := by omega
      have hk2 := h2 (zAb w s) (by omega) (by omega)
      refine ⟨zAb w s, by omega, by rw [zu_ne (by omega)]; exact hFa, ?_, by omega⟩
      have k3 := h1 (zAb w s) (by omega) (by omega)
      by_cases hlt : S' (zAb w s) < 1000000
      · exact hlt
      · exfalso
        omega
    · refine ⟨w, hw, by rw [zu_ne e]; exact hw0, ?_, ?_⟩
      · have := hX.1 w; omega
      · have := hX.1 w; omega
theorem zDj.end' {S F σ : zS} {D c : Int} (h : zDj S F σ D) (hI : zI σ) (hc : 114 ≤ c ∧ c < 120) (hl : S c < 1000000) (hm : ∀ y : Int, 0 ≤ y → y < 120 → F y = 0 → S c ≤ S y) : S c = D := by
  obtain ⟨h1, h2, h3, w, hw, hw0, hw1, hw2⟩ := h
  have k1 := h2 c (by omega) (by omega) hl
  rw [zU_19 σ hc] at k1
  have k2 := hm w hw.1 hw.2 hw0
  have k3 := zU_r hI hw
  omega

theorem vX3_leastSumFirst {G : zG} {M : zM} {σ : zS} {p lane row : Int} (hp : zP p) (hR : zRel M p σ) (hI : zI σ) (hl : 0 ≤ lane ∧ lane ≤ 5) (hr : 0 ≤ row ∧ row ≤ 19) : zCall G yX3_leastSumFirst YX3_leastSumFirst [.inr (some 184), .inr (some p), .inl lane, .inl row] M (fun v M' => v = some (.inl (zU σ (6 * row + lane))) ∧ ∀ a : Int, a ≠ 185 → a ≠ 186 → M' a = M a) := by
  refine zEnter (by decide +kernel) rfl (Nat.le_of_ble_eq_true rfl) ?_
  refine z_aload_n dX3_leastSumFirst_0 rfl ?_
  refine z_getR (b := 185) dX3_leastSumFirst_1 fX3_9 (by decide) (zsh184) rfl rfl ?_
  refine z_ldc (n := 1000000) dX3_leastSumFirst_4 qX3_26 ?_
  refine z_callS mfill (vfill (m := 120) (by decide) zsh185 (by decide)) rfl dX3_leastSumFirst_6 kX3_41 (by decide) rfl (by show _ ≤ 8; simp) (fun v6 M6 q6 => ?_)
  obtain ⟨rfl, hO6, hF6⟩ := q6
  try simp only [zpush]
  refine z_aload_n dX3_leastSumFirst_9 rfl ?_
  refine z_getR (b := 186) dX3_leastSumFirst_10 fX3_15 (by decide) (zsh184) rfl rfl ?_
  refine z_iconst dX3_leastSumFirst_13 ?_
  refine z_callS mfill (vfill (m := 120) (by decide) zsh186 (by decide)) rfl dX3_leastSumFirst_14 kX3_41 (by decide) rfl (by show _ ≤ 8; simp) (fun v14 M14 q14 => ?_)
  obtain ⟨rfl, hO14, hF14⟩ := q14
  try simp only [zpush]
  refine z_iload_n dX3_leastSumFirst_17 rfl ?_
  refine z_iload_n dX3_leastSumFirst_18 rfl ?_
  refine z_callSN mX4_cellAt (vX4_cellAt (by omega) (by omega)) rfl dX3_leastSumFirst_19 kX3_18 (by decide) rfl (by show _ ≤ 8; simp) (fun v19 M19 q19 => ?_)
  obtain ⟨rfl, c19, rfl, h19⟩ := q19
  try simp only [zpush]
  refine z_istore dX3_leastSumFirst_22 (by decide) ?_
  refine z_iload dX3_leastSumFirst_24 rfl ?_
  refine z_iconst dX3_leastSumFirst_26 ?_
  refine z_icmp_ne (tgt := 32) dX3_leastSumFirst_27 (by decide) (by omega) (by omega) (fun c27 => ?_) (fun c27 => ?_)
  · have hce : c19 = 6 * row + lane := by omega
    subst hce
    have hU0 := zU_r hI (c := 6 * row + lane) (by omega)
    refine z_aload_n dX3_leastSumFirst_32 rfl ?_
    refine z_getR (b := 185) dX3_leastSumFirst_33 fX3_9 (by decide) (zsh184) rfl rfl ?_
    refine z_iload dX3_leastSumFirst_36 rfl ?_
    refine z_iconst dX3_leastSumFirst_38 ?_
    refine z_niast dX3_leastSumFirst_39 (by decide) (zsh185) (by omega) (by decide) (fun N39 hN39 => ?_)
    refine z_iconst dX3_leastSumFirst_40 ?_
    refine z_istore dX3_leastSumFirst_41 (by decide) ?_
    have hS0 : ∀ x : Int, 0 ≤ x → x < 120 → N39 185 x = if x = 6 * row + lane then 0 else 1000000 := fun x q1 q2 => by
      rw [hN39, zm_up_j, hO14 185 (by decide), hF6 x q1 q2]
    have hF0 : ∀ x : Int, 0 ≤ x → x < 120 → N39 186 x = 0 := fun x q1 q2 => by rw [hN39, zm_up_off (by decide)]; exact hF14 x q1 q2
    have hD0 : zDj (N39 185) (N39 186) σ (zU σ (6 * row + lane)) := by
      refine ⟨fun x q1 q2 => ⟨?_, Or.inl (hF0 x q1 q2)⟩, fun x q1 q2 q3 => ?_, fun x y q1 q2 q3 q4 q5 q6 => ?_, ⟨6 * row + lane, by omega, hF0 _ (by omega) (by omega), ?_, ?_⟩⟩
      · rw [hS0 x q1 q2]; split <;> omega
      · rw [hS0 x q1 q2] at q3 ⊢; by_cases e : x = 6 * row + lane
        · rw [if_pos e, e]; omega
        · rw [if_neg e] at q3; omega
      · rw [hF0 x q1 q2] at q5; exact absurd q5 (by decide)
      · rw [hS0 _ (by omega) (by omega), if_pos rfl]; decide
      · rw [hS0 _ (by omega) (by omega), if_pos rfl]; omega
    have L : ∀ (n : Nat) (i : Int) (N : zM), (0 ≤ i ∧ i ≤ 120) → (i + n = 121) → (∀ a : Int, a ≠ 185 → a ≠ 186 → N a = M a) → (zDj (N 185) (N 186) σ (zU σ (6 * row + lane))) → (zSt (N 186) = i) → zW G YX3_leastSumFirst (fun v M' => v = some (.inl (zU σ (6 * row + lane))) ∧ ∀ a : Int, a ≠ 185 → a ≠ 186 → M' a = M a) 43 [(5, .inl i), (0, .inr (some 184)), (1, .inr (some p))] [] N := by
      intro n
      induction n with
      | zero => intro i N hi hin hO hD hC; exfalso; omega
      | succ n ih =>
        intro i N hi hin hO hD hC
        refine z_iload dX3_leastSumFirst_43 rfl ?_
        refine z_bipush dX3_leastSumFirst_45 (by decide) ?_
        refine z_icmp_ge (tgt := 112) dX3_leastSumFirst_47 (by decide) (by omega) (by omega) (fun c47 => ?_) (fun c47 => ?_)
        · exfalso
          have hw4 := hD.2.2.2
          obtain ⟨w, hw, hw0, hw1, hw2⟩ := hw4
          have hlt := zSt_lt hw hw0
          omega
        · obtain ⟨w, hw, hw0, hw1, hw2⟩ := hD.2.2.2
          have hlt := zSt_lt hw hw0
          refine z_aload_n dX3_leastSumFirst_50 rfl ?_
          refine z_callV mX3_nearest (vX3_nearest hD.1) rfl dX3_leastSumFirst_51 kX3_47 (by decide) rfl (by show _ ≤ 8; simp) (by decide) (zsh184) (by decide) rfl (fun v51 M51 q51 => ?_)
          obtain ⟨rfl, b51, rfl, hb⟩ := q51
          try simp only [zpush]
          have hbb : (0 ≤ b51 ∧ b51 < 120) ∧ N 186 b51 = 0 ∧ N 185 b51 < 1000000 ∧ ∀ y : Int, 0 ≤ y → y < 120 → N 186 y = 0 → N 185 b51 ≤ N 185 y := by
            rcases hb with ⟨_, q⟩ | q
            · exact absurd (q w hw.1 hw.2 hw0) (by omega)
            · exact q
          obtain ⟨hbr, hb0, hb1, hb2⟩ := hbb
          refine z_istore dX3_leastSumFirst_54 (by decide) ?_
          refine z_iload dX3_leastSumFirst_56 rfl ?_
          refine z_iconst dX3_leastSumFirst_58 ?_
          refine z_icmp_eq (tgt := 72) dX3_leastSumFirst_59 (by decide) (by omega) (by omega) (fun c59 => ?_) (fun c59 => ?_)
          · refine z_iload dX3_leastSumFirst_72 rfl ?_
            refine z_iconst dX3_leastSumFirst_74 ?_
            refine z_icmp_ne (tgt := 83) dX3_leastSumFirst_75 (by decide) (by omega) (by omega) (fun c75 => ?_) (fun c75 => ?_)
            · refine z_aload_n dX3_leastSumFirst_83 rfl ?_
              refine z_getR (b := 185) dX3_leastSumFirst_84 fX3_9 (by decide) (zsh184) rfl rfl ?_
              refine z_iload dX3_leastSumFirst_87 rfl ?_
              refine z_iaload dX3_leastSumFirst_89 (by decide) (zsh185) (by omega) (by decide) ?_
              refine z_iret dX3_leastSumFirst_90 rfl ?_
              exact ⟨by rw [hD.end' hI (by omega) hb1 hb2], hO⟩
            · exfalso; omega
          · refine z_iload dX3_leastSumFirst_62 rfl ?_
            refine z_bipush dX3_leastSumFirst_64 (by decide) ?_
            refine z_idiv dX3_leastSumFirst_66 (by omega) (by omega) ?_
            refine z_bipush dX3_leastSumFirst_67 (by decide) ?_
            refine z_icmp_ne (tgt := 91) dX3_leastSumFirst_69 (by decide) (by omega) (by omega) (fun c69 => ?_) (fun c69 => ?_)
            · refine z_aload_n dX3_leastSumFirst_91 rfl ?_
              refine z_getR (b := 186) dX3_leastSumFirst_92 fX3_15 (by decide) (zsh184) rfl rfl ?_
              refine z_iload dX3_leastSumFirst_95 rfl ?_
              refine z_iconst dX3_leastSumFirst_97 ?_
              refine z_niast dX3_leastSumFirst_98 (by decide) (zsh186) (by omega) (by decide) (fun N98 hN98 => ?_)
              have hR98 := hR.mv (N := N98) (fun a q1 q2 => by obtain ⟨w1, w2, w3⟩ := hp; rw [hN98, zm_up_off (by omega)]; exact hO a (by omega) (by omega))
              refine z_aload_n dX3_leastSumFirst_99 rfl ?_
              refine z_aload_n dX3_leastSumFirst_100 rfl ?_
              refine z_iload dX3_leastSumFirst_101 rfl ?_
              refine z_callV mX3_reachAbove (vX3_reachAbove hp hR98 hI (by omega) (fun x q1 q2 => by rw [hN98, zm_up_off (by decide)]; exact (hD.1 x q1 q2).1)) rfl dX3_leastSumFirst_103 kX3_51 (by decide) rfl (by show _ ≤ 8; simp) (by decide) (zsh184) (by decide) rfl (fun v103 M103 q103 => ?_)
              have hr103 := q103
              have hv103 := q103.1
              subst hv103
              try simp only [zpush]
              refine z_iinc dX3_leastSumFirst_106 rfl (by decide) ?_
              refine z_goto (tgt := 43) dX3_leastSumFirst_109 (by decide) ?_
              obtain ⟨_, hO2, hX⟩ := hr103
              have e85 : N98 185 = N 185 := by rw [hN98, zm_up_off (by decide)]
              have e86 : N98 186 = zu (N 186) b51 1 := by
                funext j
                rw [hN98, zm_up_j]
                rfl
              rw [e85] at hX
              refine zsub' (ih (i + 1) _ (by omega) (by omega) (fun a q1 q2 => by rw [hO2 a q1, hN98, zm_up_off q2]; exact hO a q1 q2) ?_ ?_) ⟨rfl, rfl, rfl, trivial⟩
              · rw [hO2 186 (by decide), e86]
                exact hD.st (by omega) hI (by omega) hb0 hb1 hb2 hX
              · rw [hO2 186 (by decide), e86, zSt_up (F := N 186) (c := b51) (by omega) hb0 zu_at (fun x q => zu_ne q), hC]
            · refine z_iload dX3_leastSumFirst_72 rfl ?_
              refine z_iconst dX3_leastSumFirst_74 ?_
              refine z_icmp_ne (tgt := 83) dX3_leastSumFirst_75 (by decide) (by omega) (by omega) (fun c75 => ?_) (fun c75 => ?_)
              · refine z_aload_n dX3_leastSumFirst_83 rfl ?_
                refine z_getR (b := 185) dX3_leastSumFirst_84 fX3_9 (by decide) (zsh184) rfl rfl ?_
                refine z_iload dX3_leastSumFirst_87 rfl ?_
                refine z_iaload dX3_leastSumFirst_89 (by decide) (zsh185) (by omega) (by decide) ?_
                refine z_iret dX3_leastSumFirst_90 rfl ?_
                exact ⟨by rw [hD.end' hI (by omega) hb1 hb2], hO⟩
              · exfalso; omega
    exact zsub' (L 121 0 N39 (by omega) (by omega) (fun a q1 q2 => by rw [hN39, zm_up_off q1, hO14 a q2, hO6 a q1]) hD0 (zSt_0 hF0)) ⟨rfl, rfl, rfl, trivial⟩
  · exfalso; omega

