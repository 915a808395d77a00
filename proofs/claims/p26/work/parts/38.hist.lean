theorem zP_h {k : Int} (h : 0 ≤ k ∧ k < 4) : zP (75 + 25 * k) := by unfold zP; omega

theorem vX0_stateAt {G : zG} {M : zM} {k : Int} (hk : 0 ≤ k ∧ k < 4) : zCall G yX0_stateAt YX0_stateAt [.inr (some 176), .inl k] M (fun v M' => M = M' ∧ v = some (.inr (some (75 + 25 * k)))) := by
  refine zEnter (by decide +kernel) rfl (Nat.le_of_ble_eq_true rfl) ?_
  refine z_iload_n dX0_stateAt_0 rfl ?_
  refine z_if_lt (tgt := 22) dX0_stateAt_1 (by decide) (by omega) (fun c1 => ?_) (fun c1 => ?_)
  · exfalso
    first | omega | (have h4 : ((4 : Nat) : Int) = 4 := rfl; omega)
  · refine z_iload_n dX0_stateAt_4 rfl ?_
    refine z_aload_n dX0_stateAt_5 rfl ?_
    refine z_getR (b := 177) dX0_stateAt_6 fX0_11 (by decide) (zsh176) rfl rfl ?_
    refine z_alenR dX0_stateAt_9 (by decide) (zsh177) (by decide) ?_
    refine z_icmp_ge (tgt := 22) dX0_stateAt_10 (by decide) (by omega) (by decide) (fun c10 => ?_) (fun c10 => ?_)
    · exfalso
      first | omega | (have h4 : ((4 : Nat) : Int) = 4 := rfl; omega)
    · refine z_aload_n dX0_stateAt_13 rfl ?_
      refine z_getR (b := 177) dX0_stateAt_14 fX0_11 (by decide) (zsh176) rfl rfl ?_
      refine z_iload_n dX0_stateAt_17 rfl ?_
      refine z_aaload (b := (75 + 25 * k)) dX0_stateAt_18 (by decide) (zsh177) (by decide) (by omega) (by decide) rfl (by omega) ?_
      refine z_goto (tgt := 23) dX0_stateAt_19 (by decide) ?_
      refine z_aret dX0_stateAt_23 rfl ?_
      exact ⟨rfl, rfl⟩

theorem vX0_remember {G : zG} {M : zM} {q : Int} {σ : zS} (hq : zP q) (hd : q + 25 ≤ 75) (hR : zRel M q σ) (hI : zI σ) (h1 : 0 ≤ M 176 1 ∧ M 176 1 ≤ 4) (h2 : 0 ≤ M 176 2 ∧ M 176 2 < 4) : zCall G yX0_remember YX0_remember [.inr (some 176), .inr (some q)] M (fun v M' => v = none ∧ zRel M' (75 + 25 * M 176 2) σ ∧ (∀ a : Int, a ≠ 176 → (a < 75 + 25 * M 176 2 ∨ 100 + 25 * M 176 2 ≤ a) → M' a = M a) ∧ M' 176 1 = (if M 176 1 = 4 then 4 else M 176 1 + 1) ∧ M' 176 2 = (M 176 2 + 1) % 4) := by
  refine zEnter (by decide +kernel) rfl (Nat.le_of_ble_eq_true rfl) ?_
  have hz : zP (75 + 25 * M 176 2) := zP_h h2
  refine z_aload_n dX0_remember_0 rfl ?_
  refine z_aload_n dX0_remember_1 rfl ?_
  refine z_getI (kI := 2) dX0_remember_2 fX0_21 (by decide) (zsh176) rfl rfl ?_
  refine z_callV mX0_stateAt (vX0_stateAt (by omega)) rfl dX0_remember_5 kX0_25 (by decide) rfl (by show _ ≤ 8; simp) (by decide) (zsh176) (by decide) rfl (fun v5 M5 q5 => ?_)
  obtain ⟨rfl, rfl⟩ := q5
  try simp only [zpush]
  refine z_astore_n dX0_remember_8 (by decide) ?_
  refine z_aload_n dX0_remember_9 rfl ?_
  refine z_ifnonnull (tgt := 14) dX0_remember_10 (by decide) ?_
  refine z_aload_n dX0_remember_14 rfl ?_
  refine z_aload_n dX0_remember_15 rfl ?_
  refine z_callV mX1_copyFrom (vX1_copyFrom hz hq (by omega) hR hI) rfl dX0_remember_16 kX0_29 (by decide) rfl (by show _ ≤ 8; simp) (zP_r0 hz) (zm_sh_p0 hz) (by decide) rfl (fun v16 M16 q16 => ?_)
  obtain ⟨rfl, hR16, hO16⟩ := q16
  try simp only [zpush]
  have e16 := hO16 176 (by omega)
  refine z_aload_n dX0_remember_19 rfl ?_
  refine z_aload_n dX0_remember_20 rfl ?_
  refine z_getI (kI := 2) dX0_remember_21 fX0_21 (by decide) (zsh176) rfl rfl ?_
  refine z_iconst dX0_remember_24 ?_
  refine z_iadd dX0_remember_25 ?_
  refine z_iconst dX0_remember_26 ?_
  rw [e16]
  refine z_irem dX0_remember_27 (by omega) (by omega) ?_
  refine z_nput (kI := 2) dX0_remember_28 fX0_21 rfl (Or.inl rfl) (by decide) (zsh176) rfl rfl (fun N28 hN28 => ?_)
  refine z_aload_n dX0_remember_31 rfl ?_
  refine z_aload_n dX0_remember_32 rfl ?_
  refine z_getI (kI := 1) dX0_remember_33 fX0_17 (by decide) (zsh176) rfl rfl ?_
  refine z_iconst dX0_remember_36 ?_
  refine z_iadd dX0_remember_37 ?_
  refine z_iconst dX0_remember_38 ?_
  have f16 : N28 176 1 = M 176 1 := by rw [hN28, zm_up_ne (by omega), e16]
  refine z_min dX0_remember_39 kX0_33 pMinS pMinI pMinC (by decide) (Nat.le_of_ble_eq_true rfl) (by omega) (by omega) ?_
  refine z_nput (kI := 1) dX0_remember_42 fX0_17 rfl (Or.inl rfl) (by decide) (zsh176) rfl rfl (fun N42 hN42 => ?_)
  refine z_vret dX0_remember_45 rfl ?_
  subst hN42
  refine ⟨rfl, ?_, fun a q1 q2 => ?_, ?_, ?_⟩
  · refine hR16.mv (fun a q1 q2 => ?_)
    rw [zm_up_off (by omega), hN28, zm_up_off (by omega)]
  · rw [zm_up_off q1, hN28, zm_up_off q1]
    exact hO16 a (by omega)
  · rw [zm_up_at, f16]
    split <;> omega
  · rw [zm_up_ne (by omega), hN28, zm_up_at]

theorem vX0_giveBack {G : zG} {M : zM} {σ : zS} (hR : M 176 1 ≠ 0 → zRel M (75 + 25 * ((M 176 2 + 3) % 4)) σ ∧ zI σ) (h1 : 0 ≤ M 176 1 ∧ M 176 1 ≤ 4) (h2 : 0 ≤ M 176 2 ∧ M 176 2 < 4) : zCall G yX0_giveBack YX0_giveBack [.inr (some 176), .inr (some 0)] M (fun v M' => (M 176 1 = 0 ∧ v = some (.inl (-5)) ∧ M' = M) ∨ (M 176 1 ≠ 0 ∧ v = some (.inl (M 176 1 - 1)) ∧ zRel M' 0 σ ∧ (∀ a : Int, a ≠ 176 → 25 ≤ a → M' a = M a) ∧ M' 176 1 = M 176 1 - 1 ∧ M' 176 2 = (M 176 2 + 3) % 4)) := by
  refine zEnter (by decide +kernel) rfl (Nat.le_of_ble_eq_true rfl) ?_
  refine z_aload_n dX0_giveBack_0 rfl ?_
  refine z_getI (kI := 2) dX0_giveBack_1 fX0_21 (by decide) (zsh176) rfl rfl ?_
  refine z_iconst dX0_giveBack_4 ?_
  refine z_iadd dX0_giveBack_5 ?_
  refine z_iconst dX0_giveBack_6 ?_
  refine z_isub dX0_giveBack_7 ?_
  refine z_iconst dX0_giveBack_8 ?_
  refine z_irem dX0_giveBack_9 (by omega) (by omega) ?_
  rw [show M 176 2 + 4 - 1 = M 176 2 + 3 from by omega]
  have hk : 0 ≤ (M 176 2 + 3) % 4 ∧ (M 176 2 + 3) % 4 < 4 := by omega
  generalize hkk : (M 176 2 + 3) % 4 = k at hR hk ⊢
  have hz : zP (75 + 25 * k) := zP_h hk
  refine z_istore_n dX0_giveBack_10 (by decide) ?_
  refine z_aload_n dX0_giveBack_11 rfl ?_
  refine z_iload_n dX0_giveBack_12 rfl ?_
  refine z_callV mX0_stateAt (vX0_stateAt (by omega)) rfl dX0_giveBack_13 kX0_25 (by decide) rfl (by show _ ≤ 8; simp) (by decide) (zsh176) (by decide) rfl (fun v13 M13 q13 => ?_)
  obtain ⟨rfl, rfl⟩ := q13
  try simp only [zpush]
  refine z_astore_n dX0_giveBack_16 (by decide) ?_
  refine z_aload_n dX0_giveBack_17 rfl ?_
  refine z_getI (kI := 1) dX0_giveBack_18 fX0_17 (by decide) (zsh176) rfl rfl ?_
  refine z_if_eq (tgt := 28) dX0_giveBack_21 (by decide) (by omega) (fun c21 => ?_) (fun c21 => ?_)
  · refine z_bipush dX0_giveBack_28 (by decide) ?_
    refine z_iret dX0_giveBack_30 rfl ?_
    exact Or.inl ⟨by omega, rfl, rfl⟩
  · refine z_aload_n dX0_giveBack_24 rfl ?_
    refine z_ifnonnull (tgt := 31) dX0_giveBack_25 (by decide) ?_
    refine z_aload_n dX0_giveBack_31 rfl ?_
    refine z_aload_n dX0_giveBack_32 rfl ?_
    refine z_callV mX1_copyFrom (vX1_copyFrom zP_0 hz (by omega) (hR (by omega)).1 (hR (by omega)).2) rfl dX0_giveBack_33 kX0_29 (by decide) rfl (by show _ ≤ 8; simp) (zP_r0 zP_0) (zm_sh_p0 zP_0) (by decide) rfl (fun v33 M33 q33 => ?_)
    obtain ⟨rfl, hR33, hO33⟩ := q33
    try simp only [zpush]
    have e33 := hO33 176 (by omega)
    refine z_aload_n dX0_giveBack_36 rfl ?_
    refine z_iload_n dX0_giveBack_37 rfl ?_
    refine z_nput (kI := 2) dX0_giveBack_38 fX0_21 rfl (Or.inl rfl) (by decide) (zsh176) rfl rfl (fun N38 hN38 => ?_)
    refine z_aload_n dX0_giveBack_41 rfl ?_
    refine z_dup dX0_giveBack_42 ?_
    refine z_getI (kI := 1) dX0_giveBack_43 fX0_17 (by decide) (zsh176) rfl rfl ?_
    refine z_iconst dX0_giveBack_46 ?_
    refine z_isub dX0_giveBack_47 ?_
    refine z_nput (kI := 1) dX0_giveBack_48 fX0_17 rfl (Or.inl rfl) (by decide) (zsh176) rfl rfl (fun N48 hN48 => ?_)
    refine z_aload_n dX0_giveBack_51 rfl ?_
    refine z_getI (kI := 1) dX0_giveBack_52 fX0_17 (by decide) (zsh176) rfl rfl ?_
    refine z_iret dX0_giveBack_55 rfl ?_
    refine Or.inr ⟨by omega, ?_, ?_, fun a q1 q2 => ?_, ?_, ?_⟩
    · rw [hN48, zm_up_at, hN38, zm_up_ne (by omega), e33]
    · refine hR33.mv (fun a q1 q2 => ?_)
      rw [hN48, zm_up_off (by omega), hN38, zm_up_off (by omega)]
    · rw [hN48, zm_up_off q1, hN38, zm_up_off q1]
      exact hO33 a (by omega)
    · rw [hN48, zm_up_at, hN38, zm_up_ne (by omega), e33]
    · rw [hN48, zm_up_ne (by omega), hN38, zm_up_at]

