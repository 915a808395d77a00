/-! ===== the class reads its text ===== -/
def zTc (T : zS) (n : Int) : Prop := (0 ≤ n ∧ n ≤ 60) ∧ ∀ j : Int, 0 ≤ j → j < n → 0 ≤ T j ∧ T j < 65536
def zAt (M : zM) (T : zS) (n i : Int) : Prop := M 179 = T ∧ M 178 1 = n ∧ M 178 2 = i
def zOn (M : zM) (b d : Int) (M' : zM) : Prop := ∀ a j : Int, (a ≠ 178 ∨ j ≠ 2) → (a ≠ b ∨ j ≠ d) → M' a j = M a j
def zCh (M : zM) (d : Int) (M' : zM) : Prop := ∀ a j : Int, ¬ (a = 178 ∧ j = 2) → ¬ ((180 ≤ a ∧ a ≤ 183) ∧ j = d) → M' a j = M a j
theorem zCh.rf (M : zM) (d : Int) : zCh M d M := fun _ _ _ _ => rfl
theorem zCh.num {M N N' : zM} {b d : Int} (h : zCh M d N) (ho : zOn N b d N') (hb : 180 ≤ b ∧ b ≤ 183) : zCh M d N' := fun a j q1 q2 => (ho a j (by omega) (by omega)).trans (h a j q1 q2)
theorem zCh.at' {M N : zM} {d x : Int} (h : zCh M d N) : zCh M d (zm_up N 178 2 x) := fun a j q1 q2 => by
  rw [zm_up_if, if_neg q1]
  exact h a j q1 q2
theorem zOn.at' {M N : zM} {b d i : Int} {T : zS} {n : Int} (h : zAt M T n i) (ho : zOn M b d N) (hb : 180 ≤ b ∧ b ≤ 183) : zAt N T n (N 178 2) := by
  refine ⟨?_, ?_, rfl⟩
  · rw [← h.1]
    funext j
    exact ho 179 j (by omega) (by omega)
  · rw [← h.2.1]
    exact ho 178 1 (by omega) (by omega)
theorem zAt.up {M : zM} {T : zS} {n i x : Int} (h : zAt M T n i) : zAt (zm_up M 178 2 x) T n x := ⟨by rw [zm_up_off (by omega)]; exact h.1, by rw [zm_up_ne (by omega)]; exact h.2.1, zm_up_at⟩
theorem zAt.ar {M : zM} {T : zS} {n i b d x : Int} (h : zAt M T n i) (hb : 180 ≤ b) : zAt (zm_up M b d x) T n i := ⟨by rw [zm_up_off (by omega)]; exact h.1, by rw [zm_up_off (by omega)]; exact h.2.1, by rw [zm_up_off (by omega)]; exact h.2.2⟩
theorem pM_y {T : zS} {n lo hi i : Int} (h : lo ≤ pN T n i - 48 ∧ pN T n i - 48 ≤ (if hi < 9 then hi else 9)) : pM T n lo hi (0, i) = (0, nE T n hi i) := by unfold pM; exact if_pos ⟨rfl, h⟩
theorem pM_n {T : zS} {n lo hi i : Int} (h : ¬ (lo ≤ pN T n i - 48 ∧ pN T n i - 48 ≤ (if hi < 9 then hi else 9))) : pM T n lo hi (0, i) = (1, i) := by unfold pM; exact if_neg (fun q => h q.2)
theorem pM_1 {T : zS} {n lo hi i : Int} : pM T n lo hi (1, i) = (1, i) := by unfold pM; exact if_neg (fun q => absurd q.1 (fun e => absurd (show (1 : Int) = 0 from e) (by decide)))
theorem pS_y {T : zS} {n c i : Int} (h : pN T n i = c) : pS T n c (0, i) = (0, i + 1) := by unfold pS; exact if_pos ⟨rfl, h⟩
theorem pS_n {T : zS} {n c i : Int} (h : ¬ pN T n i = c) : pS T n c (0, i) = (1, i) := by unfold pS; exact if_neg (fun q => h q.2)
theorem pS_1 {T : zS} {n c i : Int} : pS T n c (1, i) = (1, i) := by unfold pS; exact if_neg (fun q => absurd q.1 (fun e => absurd (show (1 : Int) = 0 from e) (by decide)))

theorem vX2_append {G : zG} {M : zM} {ch : Int} (hc : 0 ≤ ch ∧ ch < 65536) (hl : 0 ≤ M 178 1 ∧ M 178 1 ≤ 60) : zCall G yX2_append YX2_append [.inr (some 178), .inl ch] M (fun v M' => (M 178 1 = 60 ∧ v = some (.inl (-3)) ∧ M' = M) ∨ (M 178 1 ≠ 60 ∧ v = some (.inl (M 178 1 + 1)) ∧ M' = zm_up (zm_up M 179 (M 178 1) ch) 178 1 (M 178 1 + 1))) := by
  refine zEnter (by decide +kernel) rfl (Nat.le_of_ble_eq_true rfl) ?_
  refine z_aload_n dX2_append_0 rfl ?_
  refine z_getI (kI := 1) dX2_append_1 fX2_15 (by decide) (zsh178) rfl rfl ?_
  refine z_if_lt (tgt := 16) dX2_append_4 (by decide) (by omega) (fun c4 => ?_) (fun c4 => ?_)
  · refine z_bipush dX2_append_16 (by decide) ?_
    refine z_iret dX2_append_18 rfl ?_
    exact Or.inl ⟨by omega, rfl, rfl⟩
  · refine z_aload_n dX2_append_7 rfl ?_
    refine z_getI (kI := 1) dX2_append_8 fX2_15 (by decide) (zsh178) rfl rfl ?_
    refine z_bipush dX2_append_11 (by decide) ?_
    refine z_icmp_lt (tgt := 19) dX2_append_13 (by decide) (by omega) (by omega) (fun c13 => ?_) (fun c13 => ?_)
    · refine z_aload_n dX2_append_19 rfl ?_
      refine z_getR (b := 179) dX2_append_20 fX2_9 (by decide) (zsh178) rfl rfl ?_
      refine z_aload_n dX2_append_23 rfl ?_
      refine z_getI (kI := 1) dX2_append_24 fX2_15 (by decide) (zsh178) rfl rfl ?_
      refine z_iload_n dX2_append_27 rfl ?_
      refine z_ncast dX2_append_28 (by decide) (zsh179) (by omega) (by decide) (by omega) (fun N28 hN28 => ?_)
      refine z_aload_n dX2_append_29 rfl ?_
      refine z_dup dX2_append_30 ?_
      refine z_getI (kI := 1) dX2_append_31 fX2_15 (by decide) (zsh178) rfl rfl ?_
      refine z_iconst dX2_append_34 ?_
      refine z_iadd dX2_append_35 ?_
      refine z_nput (kI := 1) dX2_append_36 fX2_15 rfl (Or.inl rfl) (by decide) (zsh178) rfl rfl (fun N36 hN36 => ?_)
      refine z_aload_n dX2_append_39 rfl ?_
      refine z_getI (kI := 1) dX2_append_40 fX2_15 (by decide) (zsh178) rfl rfl ?_
      refine z_iret dX2_append_43 rfl ?_
      subst hN28
      subst hN36
      exact Or.inr ⟨by omega, by rw [zm_up_at, zm_up_off (by omega)], by rw [zm_up_off (show (178 : Int) ≠ 179 by omega)]⟩
    · refine z_bipush dX2_append_16 (by decide) ?_
      refine z_iret dX2_append_18 rfl ?_
      exact Or.inl ⟨by omega, rfl, rfl⟩

theorem vX2_empty {G : zG} {M : zM} : zCall G yX2_empty YX2_empty [.inr (some 178)] M (fun v M' => v = some (.inl (M 178 1)) ∧ M' = zm_up M 178 1 0) := by
  refine zEnter (by decide +kernel) rfl (Nat.le_of_ble_eq_true rfl) ?_
  refine z_aload_n dX2_empty_0 rfl ?_
  refine z_getI (kI := 1) dX2_empty_1 fX2_15 (by decide) (zsh178) rfl rfl ?_
  refine z_istore_n dX2_empty_4 (by decide) ?_
  refine z_aload_n dX2_empty_5 rfl ?_
  refine z_iconst dX2_empty_6 ?_
  refine z_nput (kI := 1) dX2_empty_7 fX2_15 rfl (Or.inl rfl) (by decide) (zsh178) rfl rfl (fun N7 hN7 => ?_)
  refine z_iload_n dX2_empty_10 rfl ?_
  refine z_iret dX2_empty_11 rfl ?_
  exact ⟨rfl, hN7⟩

theorem vX2_signHere {G : zG} {M : zM} {T : zS} {n i : Int} (hA : zAt M T n i) (hT : zTc T n) (hi : 0 ≤ i ∧ i ≤ n) : zCall G yX2_signHere YX2_signHere [.inr (some 178)] M (fun v M' => M = M' ∧ v = some (.inl (pN T n i))) := by
  refine zEnter (by decide +kernel) rfl (Nat.le_of_ble_eq_true rfl) ?_
  have h1 := hA.2.1
  have h2 := hA.2.2
  have ht := hT.1
  refine z_aload_n dX2_signHere_0 rfl ?_
  refine z_getI (kI := 2) dX2_signHere_1 fX2_19 (by decide) (zsh178) rfl rfl ?_
  refine z_if_lt (tgt := 39) dX2_signHere_4 (by decide) (by omega) (fun c4 => ?_) (fun c4 => ?_)
  · refine z_iconst dX2_signHere_39 ?_
    refine z_iret dX2_signHere_40 rfl ?_
    refine ⟨rfl, ?_⟩
    unfold pN
    first
      | (rw [if_pos (by omega), hA.1, hA.2.2]; done)
      | (rw [if_neg (by omega)]; done)
  · refine z_aload_n dX2_signHere_7 rfl ?_
    refine z_getI (kI := 2) dX2_signHere_8 fX2_19 (by decide) (zsh178) rfl rfl ?_
    refine z_aload_n dX2_signHere_11 rfl ?_
    refine z_getI (kI := 1) dX2_signHere_12 fX2_15 (by decide) (zsh178) rfl rfl ?_
    refine z_icmp_ge (tgt := 39) dX2_signHere_15 (by decide) (by omega) (by omega) (fun c15 => ?_) (fun c15 => ?_)
    · refine z_iconst dX2_signHere_39 ?_
      refine z_iret dX2_signHere_40 rfl ?_
      refine ⟨rfl, ?_⟩
      unfold pN
      first
        | (rw [if_pos (by omega), hA.1, hA.2.2]; done)
        | (rw [if_neg (by omega)]; done)
    · refine z_aload_n dX2_signHere_18 rfl ?_
      refine z_getI (kI := 2) dX2_signHere_19 fX2_19 (by decide) (zsh178) rfl rfl ?_
      refine z_bipush dX2_signHere_22 (by decide) ?_
      refine z_icmp_ge (tgt := 39) dX2_signHere_24 (by decide) (by omega) (by omega) (fun c24 => ?_) (fun c24 => ?_)
      · refine z_iconst dX2_signHere_39 ?_
        refine z_iret dX2_signHere_40 rfl ?_
        refine ⟨rfl, ?_⟩
        unfold pN
        first
          | (rw [if_pos (by omega), hA.1, hA.2.2]; done)
          | (rw [if_neg (by omega)]; done)
      · refine z_aload_n dX2_signHere_27 rfl ?_
        refine z_getR (b := 179) dX2_signHere_28 fX2_9 (by decide) (zsh178) rfl rfl ?_
        refine z_aload_n dX2_signHere_31 rfl ?_
        refine z_getI (kI := 2) dX2_signHere_32 fX2_19 (by decide) (zsh178) rfl rfl ?_
        refine z_caload dX2_signHere_35 (by decide) (zsh179) (by omega) (by decide) ?_
        refine z_goto (tgt := 40) dX2_signHere_36 (by decide) ?_
        refine z_iret dX2_signHere_40 rfl ?_
        refine ⟨rfl, ?_⟩
        unfold pN
        first
          | (rw [if_pos (by omega), hA.1, hA.2.2]; done)
          | (rw [if_neg (by omega)]; done)

theorem vX2_digitHere {G : zG} {M : zM} {T : zS} {n i : Int} (hA : zAt M T n i) (hT : zTc T n) (hi : 0 ≤ i ∧ i ≤ n) : zCall G yX2_digitHere YX2_digitHere [.inr (some 178)] M (fun v M' => M = M' ∧ ∃ x : Int, v = some (.inl x) ∧ (((48 ≤ pN T n i ∧ pN T n i ≤ 57) ∧ x = pN T n i - 48) ∨ (¬ (48 ≤ pN T n i ∧ pN T n i ≤ 57) ∧ x = -1))) := by
  refine zEnter (by decide +kernel) rfl (Nat.le_of_ble_eq_true rfl) ?_
  refine z_aload_n dX2_digitHere_0 rfl ?_
  refine z_callV mX2_signHere (vX2_signHere hA hT (by omega)) rfl dX2_digitHere_1 kX2_46 (by decide) rfl (by show _ ≤ 8; simp) (by decide) (zsh178) (by decide) rfl (fun v1 M1 q1 => ?_)
  obtain ⟨rfl, rfl⟩ := q1
  try simp only [zpush]
  have hp := pN_r hT.2 (n := n) (i := i) (by omega)
  refine z_istore_n dX2_digitHere_4 (by decide) ?_
  refine z_iload_n dX2_digitHere_5 rfl ?_
  refine z_bipush dX2_digitHere_6 (by decide) ?_
  refine z_icmp_lt (tgt := 24) dX2_digitHere_8 (by decide) (by omega) (by omega) (fun c8 => ?_) (fun c8 => ?_)
  · refine z_iconst dX2_digitHere_24 ?_
    refine z_iret dX2_digitHere_25 rfl ?_
    exact ⟨rfl, _, rfl, by omega⟩
  · refine z_iload_n dX2_digitHere_11 rfl ?_
    refine z_bipush dX2_digitHere_12 (by decide) ?_
    refine z_icmp_gt (tgt := 24) dX2_digitHere_14 (by decide) (by omega) (by omega) (fun c14 => ?_) (fun c14 => ?_)
    · refine z_iconst dX2_digitHere_24 ?_
      refine z_iret dX2_digitHere_25 rfl ?_
      exact ⟨rfl, _, rfl, by omega⟩
    · refine z_iload_n dX2_digitHere_17 rfl ?_
      refine z_bipush dX2_digitHere_18 (by decide) ?_
      refine z_isub dX2_digitHere_20 ?_
      refine z_goto (tgt := 25) dX2_digitHere_21 (by decide) ?_
      refine z_iret dX2_digitHere_25 rfl ?_
      exact ⟨rfl, _, rfl, by omega⟩

theorem vX2_readSign {G : zG} {M : zM} {T : zS} {n i : Int} {c : Int} (hA : zAt M T n i) (hT : zTc T n) (hi : 0 ≤ i ∧ i ≤ n) (hc : 0 ≤ c ∧ c < 65536) : zCall G yX2_readSign YX2_readSign [.inr (some 178), .inl c] M (fun v M' => ∃ zb : Int, v = some (.inl zb) ∧ ((zb = 1 ∧ pN T n i = c ∧ M' = zm_up M 178 2 (i + 1)) ∨ (zb = 0 ∧ ¬ pN T n i = c ∧ M' = M))) := by
  refine zEnter (by decide +kernel) rfl (Nat.le_of_ble_eq_true rfl) ?_
  refine z_aload_n dX2_readSign_0 rfl ?_
  refine z_callV mX2_signHere (vX2_signHere hA hT (by omega)) rfl dX2_readSign_1 kX2_46 (by decide) rfl (by show _ ≤ 8; simp) (by decide) (zsh178) (by decide) rfl (fun v1 M1 q1 => ?_)
  obtain ⟨rfl, rfl⟩ := q1
  try simp only [zpush]
  have hp := pN_r hT.2 (n := n) (i := i) (by omega)
  refine z_iload_n dX2_readSign_4 rfl ?_
  refine z_icmp_eq (tgt := 10) dX2_readSign_5 (by decide) (by omega) (by omega) (fun c5 => ?_) (fun c5 => ?_)
  · refine z_aload_n dX2_readSign_10 rfl ?_
    refine z_dup dX2_readSign_11 ?_
    refine z_getI (kI := 2) dX2_readSign_12 fX2_19 (by decide) (zsh178) rfl rfl ?_
    refine z_iconst dX2_readSign_15 ?_
    refine z_iadd dX2_readSign_16 ?_
    refine z_nput (kI := 2) dX2_readSign_17 fX2_19 rfl (Or.inl rfl) (by decide) (zsh178) rfl rfl (fun N17 hN17 => ?_)
    refine z_iconst dX2_readSign_20 ?_
    refine z_zret dX2_readSign_21 rfl (by omega) ?_
    exact ⟨_, rfl, Or.inl ⟨rfl, by omega, by rw [hN17, hA.2.2]⟩⟩
  · refine z_iconst dX2_readSign_8 ?_
    refine z_zret dX2_readSign_9 rfl (by omega) ?_
    exact ⟨_, rfl, Or.inr ⟨rfl, by omega, rfl⟩⟩

theorem vX2_readNumber {G : zG} {M : zM} {T : zS} {n i : Int} {b d lo up : Int} (hA : zAt M T n i) (hT : zTc T n) (hi : 0 ≤ i ∧ i ≤ n) (hb : 181 ≤ b ∧ b ≤ 183) (hd : 0 ≤ d ∧ d < 21) (hl : 0 ≤ lo ∧ lo ≤ 1) (hh : 5 ≤ up ∧ up ≤ 99) : zCall G yX2_readNumber YX2_readNumber [.inr (some 178), .inr (some b), .inl d, .inl lo, .inl up] M (fun v M' => ∃ zb : Int, v = some (.inl zb) ∧ ((zb = 1 ∧ (lo ≤ pN T n i - 48 ∧ pN T n i - 48 ≤ (if up < 9 then up else 9)) ∧ zAt M' T n (nE T n up i) ∧ M' b d = nV T n up i ∧ zOn M b d M') ∨ (zb = 0 ∧ ¬ (lo ≤ pN T n i - 48 ∧ pN T n i - 48 ≤ (if up < 9 then up else 9)) ∧ M' = M))) := by
  refine zEnter (by decide +kernel) rfl (Nat.le_of_ble_eq_true rfl) ?_
  have hbr : 0 ≤ b ∧ b < 187 := by omega
  have hbs : zm_sh b = .inl (0, 21) := by rcases (show b = 181 ∨ b = 182 ∨ b = 183 by omega) with h | h | h <;> (subst h; rfl)
  refine z_aload_n dX2_readNumber_0 rfl ?_
  refine z_callV mX2_digitHere (vX2_digitHere hA hT (by omega)) rfl dX2_readNumber_1 kX2_54 (by decide) rfl (by show _ ≤ 8; simp) (by decide) (zsh178) (by decide) rfl (fun v1 M1 q1 => ?_)
  obtain ⟨rfl, x1, rfl, hx1⟩ := q1
  try simp only [zpush]
  have hp := pN_r hT.2 (n := n) (i := i) (by omega)
  refine z_istore dX2_readNumber_4 (by decide) ?_
  refine z_iload dX2_readNumber_6 rfl ?_
  refine z_iload_n dX2_readNumber_8 rfl ?_
  refine z_icmp_lt (tgt := 29) dX2_readNumber_9 (by decide) (by omega) (by omega) (fun c9 => ?_) (fun c9 => ?_)
  · have h21 : ((21 : Nat) : Int) = 21 := rfl
    refine z_iconst dX2_readNumber_29 ?_
    refine z_zret dX2_readNumber_30 rfl (by omega) ?_
    exact ⟨_, rfl, Or.inr ⟨rfl, by split <;> omega, rfl⟩⟩
  · refine z_iload dX2_readNumber_12 rfl ?_
    refine z_iload dX2_readNumber_14 rfl ?_
    refine z_icmp_gt (tgt := 29) dX2_readNumber_16 (by decide) (by omega) (by omega) (fun c16 => ?_) (fun c16 => ?_)
    · have h21 : ((21 : Nat) : Int) = 21 := rfl
      refine z_iconst dX2_readNumber_29 ?_
      refine z_zret dX2_readNumber_30 rfl (by omega) ?_
      exact ⟨_, rfl, Or.inr ⟨rfl, by split <;> omega, rfl⟩⟩
    · refine z_iload_n dX2_readNumber_19 rfl ?_
      refine z_if_lt (tgt := 29) dX2_readNumber_20 (by decide) (by omega) (fun c20 => ?_) (fun c20 => ?_)
      · have h21 : ((21 : Nat) : Int) = 21 := rfl
        refine z_iconst dX2_readNumber_29 ?_
        refine z_zret dX2_readNumber_30 rfl (by omega) ?_
        exact ⟨_, rfl, Or.inr ⟨rfl, by split <;> omega, rfl⟩⟩
      · refine z_iload_n dX2_readNumber_23 rfl ?_
        refine z_aload_n dX2_readNumber_24 rfl ?_
        refine z_alen dX2_readNumber_25 hbr hbs (by decide) ?_
        refine z_icmp_lt (tgt := 31) dX2_readNumber_26 (by decide) (by omega) (by decide) (fun c26 => ?_) (fun c26 => ?_)
        · have hin := pN_in (T := T) (n := n) (i := i) (by omega)
          have hp2 := pN_r hT.2 (n := n) (i := i + 1) (by omega)
          refine z_aload_n dX2_readNumber_31 rfl ?_
          refine z_dup dX2_readNumber_32 ?_
          refine z_getI (kI := 2) dX2_readNumber_33 fX2_19 (by decide) (zsh178) rfl rfl ?_
          refine z_iconst dX2_readNumber_36 ?_
          refine z_iadd dX2_readNumber_37 ?_
          refine z_nput (kI := 2) dX2_readNumber_38 fX2_19 rfl (Or.inl rfl) (by decide) (zsh178) rfl rfl (fun N38 hN38 => ?_)
          rw [hA.2.2] at hN38
          have hA2 : zAt N38 T n (i + 1) := by rw [hN38]; exact hA.up
          refine z_aload_n dX2_readNumber_41 rfl ?_
          refine z_callV mX2_digitHere (vX2_digitHere hA2 hT (by omega)) rfl dX2_readNumber_42 kX2_54 (by decide) rfl (by show _ ≤ 8; simp) (by decide) (zsh178) (by decide) rfl (fun v42 M42 q42 => ?_)
          obtain ⟨rfl, x2, rfl, hx2⟩ := q42
          try simp only [zpush]
          refine z_istore dX2_readNumber_45 (by decide) ?_
          refine z_iload dX2_readNumber_47 rfl ?_
          refine z_if_le (tgt := 90) dX2_readNumber_49 (by decide) (by omega) (fun c49 => ?_) (fun c49 => ?_)
          · refine z_aload_n dX2_readNumber_90 rfl ?_
            refine z_iload_n dX2_readNumber_91 rfl ?_
            refine z_iload dX2_readNumber_92 rfl ?_
            refine z_niast dX2_readNumber_94 hbr hbs (by omega) (by decide) (fun N94 hN94 => ?_)
            refine z_iconst dX2_readNumber_95 ?_
            refine z_zret dX2_readNumber_96 rfl (by omega) ?_
            first
              | (rw [hA2.2.2] at hN87; subst hN94; refine ⟨_, rfl, Or.inl ⟨rfl, by split <;> omega, ?_, ?_, fun a j q1 q2 => ?_⟩⟩; (unfold nE; rw [if_pos (by omega), hN87, show i + 2 = i + 1 + 1 from by omega]; exact hA2.up.ar (by omega)); (unfold nV; rw [if_pos (by omega), zm_up_at]; omega); (rw [zm_up_if, if_neg (by omega), hN87, zm_up_if, if_neg (by omega), hN38, zm_up_if, if_neg (by omega)]))
              | (subst hN94; refine ⟨_, rfl, Or.inl ⟨rfl, by split <;> omega, ?_, ?_, fun a j q1 q2 => ?_⟩⟩; (unfold nE; rw [if_neg (by omega)]; exact hA2.ar (by omega)); (unfold nV; rw [if_neg (by omega), zm_up_at]; omega); (rw [zm_up_if, if_neg (by omega), hN38, zm_up_if, if_neg (by omega)]))
          · refine z_iload dX2_readNumber_52 rfl ?_
            refine z_if_lt (tgt := 90) dX2_readNumber_54 (by decide) (by omega) (fun c54 => ?_) (fun c54 => ?_)
            · refine z_aload_n dX2_readNumber_90 rfl ?_
              refine z_iload_n dX2_readNumber_91 rfl ?_
              refine z_iload dX2_readNumber_92 rfl ?_
              refine z_niast dX2_readNumber_94 hbr hbs (by omega) (by decide) (fun N94 hN94 => ?_)
              refine z_iconst dX2_readNumber_95 ?_
              refine z_zret dX2_readNumber_96 rfl (by omega) ?_
              first
                | (rw [hA2.2.2] at hN87; subst hN94; refine ⟨_, rfl, Or.inl ⟨rfl, by split <;> omega, ?_, ?_, fun a j q1 q2 => ?_⟩⟩; (unfold nE; rw [if_pos (by omega), hN87, show i + 2 = i + 1 + 1 from by omega]; exact hA2.up.ar (by omega)); (unfold nV; rw [if_pos (by omega), zm_up_at]; omega); (rw [zm_up_if, if_neg (by omega), hN87, zm_up_if, if_neg (by omega), hN38, zm_up_if, if_neg (by omega)]))
                | (subst hN94; refine ⟨_, rfl, Or.inl ⟨rfl, by split <;> omega, ?_, ?_, fun a j q1 q2 => ?_⟩⟩; (unfold nE; rw [if_neg (by omega)]; exact hA2.ar (by omega)); (unfold nV; rw [if_neg (by omega), zm_up_at]; omega); (rw [zm_up_if, if_neg (by omega), hN38, zm_up_if, if_neg (by omega)]))
            · refine z_iload dX2_readNumber_57 rfl ?_
              refine z_bipush dX2_readNumber_59 (by decide) ?_
              refine z_imul dX2_readNumber_61 ?_
              refine z_iload dX2_readNumber_62 rfl ?_
              refine z_iadd dX2_readNumber_64 ?_
              refine z_iload dX2_readNumber_65 rfl ?_
              refine z_icmp_gt (tgt := 90) dX2_readNumber_67 (by decide) (by omega) (by omega) (fun c67 => ?_) (fun c67 => ?_)
              · refine z_aload_n dX2_readNumber_90 rfl ?_
                refine z_iload_n dX2_readNumber_91 rfl ?_
                refine z_iload dX2_readNumber_92 rfl ?_
                refine z_niast dX2_readNumber_94 hbr hbs (by omega) (by decide) (fun N94 hN94 => ?_)
                refine z_iconst dX2_readNumber_95 ?_
                refine z_zret dX2_readNumber_96 rfl (by omega) ?_
                first
                  | (rw [hA2.2.2] at hN87; subst hN94; refine ⟨_, rfl, Or.inl ⟨rfl, by split <;> omega, ?_, ?_, fun a j q1 q2 => ?_⟩⟩; (unfold nE; rw [if_pos (by omega), hN87, show i + 2 = i + 1 + 1 from by omega]; exact hA2.up.ar (by omega)); (unfold nV; rw [if_pos (by omega), zm_up_at]; omega); (rw [zm_up_if, if_neg (by omega), hN87, zm_up_if, if_neg (by omega), hN38, zm_up_if, if_neg (by omega)]))
                  | (subst hN94; refine ⟨_, rfl, Or.inl ⟨rfl, by split <;> omega, ?_, ?_, fun a j q1 q2 => ?_⟩⟩; (unfold nE; rw [if_neg (by omega)]; exact hA2.ar (by omega)); (unfold nV; rw [if_neg (by omega), zm_up_at]; omega); (rw [zm_up_if, if_neg (by omega), hN38, zm_up_if, if_neg (by omega)]))
              · refine z_iload dX2_readNumber_70 rfl ?_
                refine z_bipush dX2_readNumber_72 (by decide) ?_
                refine z_imul dX2_readNumber_74 ?_
                refine z_iload dX2_readNumber_75 rfl ?_
                refine z_iadd dX2_readNumber_77 ?_
                refine z_istore dX2_readNumber_78 (by decide) ?_
                refine z_aload_n dX2_readNumber_80 rfl ?_
                refine z_dup dX2_readNumber_81 ?_
                refine z_getI (kI := 2) dX2_readNumber_82 fX2_19 (by decide) (zsh178) rfl rfl ?_
                refine z_iconst dX2_readNumber_85 ?_
                refine z_iadd dX2_readNumber_86 ?_
                refine z_nput (kI := 2) dX2_readNumber_87 fX2_19 rfl (Or.inl rfl) (by decide) (zsh178) rfl rfl (fun N87 hN87 => ?_)
                refine z_aload_n dX2_readNumber_90 rfl ?_
                refine z_iload_n dX2_readNumber_91 rfl ?_
                refine z_iload dX2_readNumber_92 rfl ?_
                refine z_niast dX2_readNumber_94 hbr hbs (by omega) (by decide) (fun N94 hN94 => ?_)
                refine z_iconst dX2_readNumber_95 ?_
                refine z_zret dX2_readNumber_96 rfl (by omega) ?_
                first
                  | (rw [hA2.2.2] at hN87; subst hN94; refine ⟨_, rfl, Or.inl ⟨rfl, by split <;> omega, ?_, ?_, fun a j q1 q2 => ?_⟩⟩; (unfold nE; rw [if_pos (by omega), hN87, show i + 2 = i + 1 + 1 from by omega]; exact hA2.up.ar (by omega)); (unfold nV; rw [if_pos (by omega), zm_up_at]; omega); (rw [zm_up_if, if_neg (by omega), hN87, zm_up_if, if_neg (by omega), hN38, zm_up_if, if_neg (by omega)]))
                  | (subst hN94; refine ⟨_, rfl, Or.inl ⟨rfl, by split <;> omega, ?_, ?_, fun a j q1 q2 => ?_⟩⟩; (unfold nE; rw [if_neg (by omega)]; exact hA2.ar (by omega)); (unfold nV; rw [if_neg (by omega), zm_up_at]; omega); (rw [zm_up_if, if_neg (by omega), hN38, zm_up_if, if_neg (by omega)]))
        · have h21 : ((21 : Nat) : Int) = 21 := rfl
          refine z_iconst dX2_readNumber_29 ?_
          refine z_zret dX2_readNumber_30 rfl (by omega) ?_
          exact ⟨_, rfl, Or.inr ⟨rfl, by split <;> omega, rfl⟩⟩

