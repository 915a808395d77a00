theorem vX5_stopped {G : zG} {M : zM} {σ : zS} {w : Int} (hw : -2147483648 ≤ w ∧ w < 2147483648) (h8 : M 187 8 = 0 ∨ M 187 8 = 1) : zCall G yX5_stopped YX5_stopped [.inr (some 187), .inl w] (zt M σ) (fun v M' => zt M σ = M' ∧ v = some (.inl (sStopped M w))) := by
  refine zEnter (by decide +kernel) rfl (Nat.le_of_ble_eq_true rfl) ?_
  refine z_iload_n dX5_stopped_0 rfl ?_
  refine z_iconst dX5_stopped_1 ?_
  refine z_iconst dX5_stopped_2 ?_
  refine z_callS mX5_in (vX5_in (by omega) (by omega) (by omega)) rfl dX5_stopped_3 kX5_32 (by decide) rfl (by show _ ≤ 8; simp) (fun v3 M3 q3 => ?_)
  obtain ⟨rfl, b3, rfl, h3⟩ := q3
  try simp only [zpush]
  refine z_if_ne (tgt := 12) dX5_stopped_6 (by decide) (by omega) (fun c6 => ?_) (fun c6 => ?_)
  · refine z_aload_n dX5_stopped_12 rfl ?_
    refine z_oget (kI := 8) dX5_stopped_13 fX5_161 (by decide) (by decide) zsh187 rfl rfl ?_
    refine z_if_ne (tgt := 24) dX5_stopped_16 (by decide) (by omega) (fun c16 => ?_) (fun c16 => ?_)
    · refine z_iload_n dX5_stopped_24 rfl ?_
      refine z_if_ne (tgt := 35) dX5_stopped_25 (by decide) (by omega) (fun c25 => ?_) (fun c25 => ?_)
      · refine z_aload_n dX5_stopped_35 rfl ?_
        refine z_oget (kI := 10) dX5_stopped_36 fX5_167 (by decide) (by decide) zsh187 rfl rfl ?_
        refine z_iret dX5_stopped_39 rfl ?_
        refine ⟨rfl, ?_⟩
        unfold sStopped
        congr 2
        repeat' split
        all_goals first | rfl | omega
      · refine z_aload_n dX5_stopped_28 rfl ?_
        refine z_oget (kI := 9) dX5_stopped_29 fX5_164 (by decide) (by decide) zsh187 rfl rfl ?_
        refine z_goto (tgt := 39) dX5_stopped_32 (by decide) ?_
        refine z_iret dX5_stopped_39 rfl ?_
        refine ⟨rfl, ?_⟩
        unfold sStopped
        congr 2
        repeat' split
        all_goals first | rfl | omega
    · refine z_bipush dX5_stopped_19 (by decide) ?_
      refine z_goto (tgt := 39) dX5_stopped_21 (by decide) ?_
      refine z_iret dX5_stopped_39 rfl ?_
      refine ⟨rfl, ?_⟩
      unfold sStopped
      congr 2
      repeat' split
      all_goals first | rfl | omega
  · refine z_bipush dX5_stopped_9 (by decide) ?_
    refine z_iret dX5_stopped_11 rfl ?_
    refine ⟨rfl, ?_⟩
    unfold sStopped
    congr 2
    repeat' split
    all_goals first | rfl | omega

theorem vX5_type {G : zG} {M : zM} {σ : zS} {ch : Int} (hc : 0 ≤ ch ∧ ch < 65536) (hl : 0 ≤ M 187 7 ∧ M 187 7 ≤ 60) : zCall G yX5_type YX5_type [.inr (some 187), .inl ch] (zt M σ) (fun v M' => (M 187 7 = 60 ∧ v = some (.inl (-3)) ∧ M' = zt M σ) ∨ (M 187 7 ≠ 60 ∧ v = some (.inl (M 187 7 + 1)) ∧ ∃ N : zM, M' = zt N σ ∧ (∀ a : Int, a ≠ 192 → a ≠ 187 → N a = M a) ∧ (∀ j : Int, j ≠ 7 → N 187 j = M 187 j) ∧ N 187 7 = M 187 7 + 1 ∧ N 192 (M 187 7) = ch ∧ ∀ j : Int, j ≠ M 187 7 → N 192 j = M 192 j)) := by
  refine zEnter (by decide +kernel) rfl (Nat.le_of_ble_eq_true rfl) ?_
  refine z_aload_n dX5_type_0 rfl ?_
  refine z_oget (kI := 7) dX5_type_1 fX5_113 (by decide) (by decide) zsh187 rfl rfl ?_
  refine z_bipush dX5_type_4 (by decide) ?_
  refine z_icmp_ne (tgt := 12) dX5_type_6 (by decide) (by omega) (by omega) (fun c6 => ?_) (fun c6 => ?_)
  · refine z_aload_n dX5_type_12 rfl ?_
    refine z_getR (b := 192) dX5_type_13 fX5_22 (by decide) zsh187 rfl rfl ?_
    refine z_aload_n dX5_type_16 rfl ?_
    refine z_oget (kI := 7) dX5_type_17 fX5_113 (by decide) (by decide) zsh187 rfl rfl ?_
    refine z_iload_n dX5_type_20 rfl ?_
    refine z_ocstore dX5_type_21 (by decide) (by decide) (zsh192) (by omega) (by decide) (by omega) (fun N21 hN21 => ?_)
    refine z_aload_n dX5_type_22 rfl ?_
    refine z_dup dX5_type_23 ?_
    refine z_oget (kI := 7) dX5_type_24 fX5_113 (by decide) (by decide) zsh187 rfl rfl ?_
    refine z_iconst dX5_type_27 ?_
    refine z_iadd dX5_type_28 ?_
    refine z_oput (kI := 7) dX5_type_29 fX5_113 rfl (Or.inl rfl) (by decide) (by decide) zsh187 rfl rfl (fun N29 hN29 => ?_)
    refine z_aload_n dX5_type_32 rfl ?_
    refine z_oget (kI := 7) dX5_type_33 fX5_113 (by decide) (by decide) zsh187 rfl rfl ?_
    refine z_iret dX5_type_36 rfl ?_
    have e1 : N21 187 7 = M 187 7 := by rw [hN21, zm_up_off (by decide)]
    refine Or.inr ⟨by omega, by rw [hN29, zm_up_at, e1], N29, rfl, fun a q1 q2 => by rw [hN29, zm_up_off q2, hN21, zm_up_off q1], fun j q => by rw [hN29, zm_up_ne q, hN21, zm_up_off (by decide)], by rw [hN29, zm_up_at, e1], by rw [hN29, zm_up_off (by decide), hN21, zm_up_at], fun j q => by rw [hN29, zm_up_off (by decide), hN21, zm_up_ne q]⟩
  · refine z_bipush dX5_type_9 (by decide) ?_
    refine z_iret dX5_type_11 rfl ?_
    exact Or.inl ⟨by omega, rfl, rfl⟩

theorem vX5_clearText {G : zG} {M : zM} {σ : zS}  : zCall G yX5_clearText YX5_clearText [.inr (some 187)] (zt M σ) (fun v M' => v = some (.inl (M 187 7)) ∧ M' = zt (zm_up M 187 7 0) σ) := by
  refine zEnter (by decide +kernel) rfl (Nat.le_of_ble_eq_true rfl) ?_
  refine z_aload_n dX5_clearText_0 rfl ?_
  refine z_oget (kI := 7) dX5_clearText_1 fX5_113 (by decide) (by decide) zsh187 rfl rfl ?_
  refine z_istore_n dX5_clearText_4 (by decide) ?_
  refine z_aload_n dX5_clearText_5 rfl ?_
  refine z_iconst dX5_clearText_6 ?_
  refine z_oput (kI := 7) dX5_clearText_7 fX5_113 rfl (Or.inl rfl) (by decide) (by decide) zsh187 rfl rfl (fun N7 hN7 => ?_)
  refine z_iload_n dX5_clearText_10 rfl ?_
  refine z_iret dX5_clearText_11 rfl ?_
  exact ⟨rfl, by rw [hN7]⟩

theorem vX5_keep {G : zG} {M : zM} {σ : zS}  : zCall G yX5_keep YX5_keep [.inr (some 187)] (zt M σ) (fun v M' => v = some (.inl (σ 536)) ∧ ∃ N : zM, M' = zt N σ ∧ (∀ a : Int, a ≠ 191 → a ≠ 187 → N a = M a) ∧ (∀ j : Int, j ≠ 5 → N 187 j = M 187 j) ∧ N 187 5 = 1 ∧ ∀ j : Int, 0 ≤ j → j < 538 → N 191 j = σ j) := by
  refine zEnter (by decide +kernel) rfl (Nat.le_of_ble_eq_true rfl) ?_
  refine z_iconst dX5_keep_0 ?_
  refine z_istore_n dX5_keep_1 (by decide) ?_
  have L : ∀ (n : Nat) (c : Int) (N : zM), (0 ≤ c ∧ c ≤ 538) → (c + n = 539) → (∀ a : Int, a ≠ 191 → N a = M a) → (∀ j : Int, 0 ≤ j → j < c → N 191 j = σ j) → zW G YX5_keep (fun v M' => v = some (.inl (σ 536)) ∧ ∃ N : zM, M' = zt N σ ∧ (∀ a : Int, a ≠ 191 → a ≠ 187 → N a = M a) ∧ (∀ j : Int, j ≠ 5 → N 187 j = M 187 j) ∧ N 187 5 = 1 ∧ ∀ j : Int, 0 ≤ j → j < 538 → N 191 j = σ j) 2 [(1, .inl c), (0, .inr (some 187))] [] (zt N σ) := by
    intro n
    induction n with
    | zero => intro c N hc hcn h1 h2; exfalso; omega
    | succ n ih =>
      intro c N hc hcn h1 h2
      refine z_iload_n dX5_keep_2 rfl ?_
      refine z_sipush dX5_keep_3 (by decide) ?_
      refine z_icmp_ge (tgt := 27) dX5_keep_6 (by decide) (by omega) (by omega) (fun c6 => ?_) (fun c6 => ?_)
      · refine z_aload_n dX5_keep_27 rfl ?_
        refine z_iconst dX5_keep_28 ?_
        refine z_oput (kI := 5) dX5_keep_29 fX5_170 rfl (Or.inr ⟨rfl, by omega⟩) (by decide) (by decide) zsh187 rfl rfl (fun N29 hN29 => ?_)
        refine z_aload_n dX5_keep_32 rfl ?_
        refine z_getR (b := 188) dX5_keep_33 fX5_7 (by decide) zsh187 rfl rfl ?_
        refine z_sipush dX5_keep_36 (by decide) ?_
        refine z_sload dX5_keep_39 (by omega) ?_
        refine z_iret dX5_keep_40 rfl ?_
        exact ⟨rfl, N29, rfl, fun a q1 q2 => by rw [hN29, zm_up_off q2]; exact h1 a q1, fun j q => by rw [hN29, zm_up_ne q, h1 187 (by decide)], by rw [hN29, zm_up_at], fun j q1 q2 => by rw [hN29, zm_up_off (by decide)]; exact h2 j q1 (by omega)⟩
      · refine z_aload_n dX5_keep_9 rfl ?_
        refine z_getR (b := 191) dX5_keep_10 fX5_19 (by decide) zsh187 rfl rfl ?_
        refine z_iload_n dX5_keep_13 rfl ?_
        refine z_aload_n dX5_keep_14 rfl ?_
        refine z_getR (b := 188) dX5_keep_15 fX5_7 (by decide) zsh187 rfl rfl ?_
        refine z_iload_n dX5_keep_18 rfl ?_
        refine z_sload dX5_keep_19 (by omega) ?_
        refine z_ostore dX5_keep_20 (by decide) (by decide) (zsh191) (by omega) (by decide) (fun N20 hN20 => ?_)
        refine z_iinc dX5_keep_21 rfl (by decide) ?_
        refine z_goto (tgt := 2) dX5_keep_24 (by decide) ?_
        exact zsub' (ih (c + 1) N20 (by omega) (by omega) (fun a ha => by rw [hN20, zm_up_off ha]; exact h1 a ha) (fun j q1 q2 => if hj : j = c then (by rw [hN20, hj]; exact zm_up_at) else (by rw [hN20, zm_up_ne hj]; exact h2 j q1 (by omega)))) ⟨rfl, rfl, trivial⟩
  exact zsub' (L 539 0 M (by omega) (by omega) (fun _ _ => rfl) (fun j q1 q2 => by omega)) ⟨rfl, rfl, trivial⟩

theorem vX5_undo {G : zG} {M : zM} {σ : zS} (hp : 0 ≤ M 187 3 ∧ M 187 3 ≤ 4) : zCall G yX5_undo YX5_undo [.inr (some 187)] (zt M σ) (fun v M' => (M 187 3 = 0 ∧ v = some (.inl (-5)) ∧ M' = zt M σ) ∨ (M 187 3 ≠ 0 ∧ v = some (.inl (M 187 3 - 1)) ∧ ∃ σ' : zS, M' = zt (zm_up M 187 3 (M 187 3 - 1)) σ' ∧ (∀ j : Int, 0 ≤ j → j < 538 → σ' j = M 190 (538 * (M 187 3 - 1) + j)) ∧ zo σ σ')) := by
  refine zEnter (by decide +kernel) rfl (Nat.le_of_ble_eq_true rfl) ?_
  refine z_aload_n dX5_undo_0 rfl ?_
  refine z_oget (kI := 3) dX5_undo_1 fX5_44 (by decide) (by decide) zsh187 rfl rfl ?_
  refine z_if_ne (tgt := 10) dX5_undo_4 (by decide) (by omega) (fun c4 => ?_) (fun c4 => ?_)
  · refine z_aload_n dX5_undo_10 rfl ?_
    refine z_dup dX5_undo_11 ?_
    refine z_oget (kI := 3) dX5_undo_12 fX5_44 (by decide) (by decide) zsh187 rfl rfl ?_
    refine z_iconst dX5_undo_15 ?_
    refine z_isub dX5_undo_16 ?_
    refine z_oput (kI := 3) dX5_undo_17 fX5_44 rfl (Or.inl rfl) (by decide) (by decide) zsh187 rfl rfl (fun N17 hN17 => ?_)
    have e3 : N17 187 3 = M 187 3 - 1 := by rw [hN17, zm_up_at]
    have e190 : N17 190 = M 190 := by rw [hN17, zm_up_off (by decide)]
    refine z_iconst dX5_undo_20 ?_
    refine z_istore_n dX5_undo_21 (by decide) ?_
    have L : ∀ (n : Nat) (c : Int) (τ : zS), (0 ≤ c ∧ c ≤ 538) → (c + n = 539) → (∀ j : Int, 0 ≤ j → j < c → τ j = M 190 (538 * (M 187 3 - 1) + j)) → (zo σ τ) → zW G YX5_undo (fun v M' => (M 187 3 = 0 ∧ v = some (.inl (-5)) ∧ M' = zt M σ) ∨ (M 187 3 ≠ 0 ∧ v = some (.inl (M 187 3 - 1)) ∧ ∃ σ' : zS, M' = zt (zm_up M 187 3 (M 187 3 - 1)) σ' ∧ (∀ j : Int, 0 ≤ j → j < 538 → σ' j = M 190 (538 * (M 187 3 - 1) + j)) ∧ zo σ σ')) 22 [(1, .inl c), (0, .inr (some 187))] [] (zt N17 τ) := by
      intro n
      induction n with
      | zero => intro c τ hc hcn h2 h3; exfalso; omega
      | succ n ih =>
        intro c τ hc hcn h2 h3
        refine z_iload_n dX5_undo_22 rfl ?_
        refine z_sipush dX5_undo_23 (by decide) ?_
        refine z_icmp_ge (tgt := 56) dX5_undo_26 (by decide) (by omega) (by omega) (fun c26 => ?_) (fun c26 => ?_)
        · refine z_aload_n dX5_undo_56 rfl ?_
          refine z_oget (kI := 3) dX5_undo_57 fX5_44 (by decide) (by decide) zsh187 rfl rfl ?_
          refine z_iret dX5_undo_60 rfl ?_
          exact Or.inr ⟨c4, by rw [e3], τ, by rw [hN17], fun j q1 q2 => h2 j q1 (by omega), h3⟩
        · refine z_aload_n dX5_undo_29 rfl ?_
          refine z_getR (b := 188) dX5_undo_30 fX5_7 (by decide) zsh187 rfl rfl ?_
          refine z_iload_n dX5_undo_33 rfl ?_
          refine z_aload_n dX5_undo_34 rfl ?_
          refine z_getR (b := 190) dX5_undo_35 fX5_16 (by decide) zsh187 rfl rfl ?_
          refine z_sipush dX5_undo_38 (by decide) ?_
          refine z_aload_n dX5_undo_41 rfl ?_
          refine z_oget (kI := 3) dX5_undo_42 fX5_44 (by decide) (by decide) zsh187 rfl rfl ?_
          refine z_imul dX5_undo_45 ?_
          refine z_iload_n dX5_undo_46 rfl ?_
          refine z_iadd dX5_undo_47 ?_
          refine z_oload dX5_undo_48 (by decide) (by decide) (zsh190) (by omega) (by decide) ?_
          refine z_sstore dX5_undo_49 (by omega) (fun σ49 hσ49 => ?_)
          refine z_iinc dX5_undo_50 rfl (by decide) ?_
          refine z_goto (tgt := 22) dX5_undo_53 (by decide) ?_
          exact zsub' (ih (c + 1) σ49 (by omega) (by omega) (fun j q1 q2 => if hj : j = c then (by rw [hσ49, hj, zu_at, e3, e190]) else (by rw [hσ49, zu_ne hj]; exact h2 j q1 (by omega))) (h3.tr (by rw [hσ49]; exact zo_zu (by omega)))) ⟨rfl, rfl, trivial⟩
    exact zsub' (L 539 0 σ (by omega) (by omega) (fun j q1 q2 => by omega) (zo.rf σ)) ⟨rfl, rfl, trivial⟩
  · refine z_bipush dX5_undo_7 (by decide) ?_
    refine z_iret dX5_undo_9 rfl ?_
    exact Or.inl ⟨c4, rfl, rfl⟩

theorem vX5_restore {G : zG} {M : zM} {σ : zS} (hp : 0 ≤ M 187 3 ∧ M 187 3 ≤ 4) (h5 : M 187 5 = 0 ∨ M 187 5 = 1) : zCall G yX5_restore YX5_restore [.inr (some 187)] (zt M σ) (fun v M' => (M 187 5 = 0 ∧ v = some (.inl (-5)) ∧ M' = zt M σ) ∨ (M 187 5 ≠ 0 ∧ ∃ (N : zM) (σ' : zS), v = some (.inl (σ' 536)) ∧ M' = zt N σ' ∧ zRec M σ N ∧ (∀ j : Int, 0 ≤ j → j < 538 → σ' j = N 191 j) ∧ zo σ σ')) := by
  refine zEnter (by decide +kernel) rfl (Nat.le_of_ble_eq_true rfl) ?_
  refine z_aload_n dX5_restore_0 rfl ?_
  refine z_oget (kI := 5) dX5_restore_1 fX5_170 (by decide) (by decide) zsh187 rfl rfl ?_
  refine z_if_ne (tgt := 10) dX5_restore_4 (by decide) (by omega) (fun c4 => ?_) (fun c4 => ?_)
  · refine z_aload_n dX5_restore_10 rfl ?_
    refine z_callV mX5_records (vX5_records (by omega)) rfl dX5_restore_11 kX5_57 (by decide) rfl (by show _ ≤ 8; simp) (by decide) zsh187 (by decide) rfl (fun v11 M11 q11 => ?_)
    obtain ⟨rfl, N11, rfl, hR11⟩ := q11
    try simp only [zpush]
    refine z_iconst dX5_restore_14 ?_
    refine z_istore_n dX5_restore_15 (by decide) ?_
    have L : ∀ (n : Nat) (c : Int) (τ : zS), (0 ≤ c ∧ c ≤ 538) → (c + n = 539) → (∀ j : Int, 0 ≤ j → j < c → τ j = N11 191 j) → (zo σ τ) → zW G YX5_restore (fun v M' => (M 187 5 = 0 ∧ v = some (.inl (-5)) ∧ M' = zt M σ) ∨ (M 187 5 ≠ 0 ∧ ∃ (N : zM) (σ' : zS), v = some (.inl (σ' 536)) ∧ M' = zt N σ' ∧ zRec M σ N ∧ (∀ j : Int, 0 ≤ j → j < 538 → σ' j = N 191 j) ∧ zo σ σ')) 16 [(1, .inl c), (0, .inr (some 187))] [] (zt N11 τ) := by
      intro n
      induction n with
      | zero => intro c τ hc hcn h2 h3; exfalso; omega
      | succ n ih =>
        intro c τ hc hcn h2 h3
        refine z_iload_n dX5_restore_16 rfl ?_
        refine z_sipush dX5_restore_17 (by decide) ?_
        refine z_icmp_ge (tgt := 41) dX5_restore_20 (by decide) (by omega) (by omega) (fun c20 => ?_) (fun c20 => ?_)
        · refine z_aload_n dX5_restore_41 rfl ?_
          refine z_getR (b := 188) dX5_restore_42 fX5_7 (by decide) zsh187 rfl rfl ?_
          refine z_sipush dX5_restore_45 (by decide) ?_
          refine z_sload dX5_restore_48 (by omega) ?_
          refine z_iret dX5_restore_49 rfl ?_
          exact Or.inr ⟨c4, N11, τ, rfl, rfl, hR11, fun j q1 q2 => h2 j q1 (by omega), h3⟩
        · refine z_aload_n dX5_restore_23 rfl ?_
          refine z_getR (b := 188) dX5_restore_24 fX5_7 (by decide) zsh187 rfl rfl ?_
          refine z_iload_n dX5_restore_27 rfl ?_
          refine z_aload_n dX5_restore_28 rfl ?_
          refine z_getR (b := 191) dX5_restore_29 fX5_19 (by decide) zsh187 rfl rfl ?_
          refine z_iload_n dX5_restore_32 rfl ?_
          refine z_oload dX5_restore_33 (by decide) (by decide) (zsh191) (by omega) (by decide) ?_
          refine z_sstore dX5_restore_34 (by omega) (fun σ34 hσ34 => ?_)
          refine z_iinc dX5_restore_35 rfl (by decide) ?_
          refine z_goto (tgt := 16) dX5_restore_38 (by decide) ?_
          exact zsub' (ih (c + 1) σ34 (by omega) (by omega) (fun j q1 q2 => if hj : j = c then (by rw [hσ34, hj, zu_at]) else (by rw [hσ34, zu_ne hj]; exact h2 j q1 (by omega))) (h3.tr (by rw [hσ34]; exact zo_zu (by omega)))) ⟨rfl, rfl, trivial⟩
    exact zsub' (L 539 0 σ (by omega) (by omega) (fun j q1 q2 => by omega) (zo.rf σ)) ⟨rfl, rfl, trivial⟩
  · refine z_bipush dX5_restore_7 (by decide) ?_
    refine z_iret dX5_restore_9 rfl ?_
    exact Or.inl ⟨c4, rfl, rfl⟩

theorem vX5_set {G : zG} {M : zM} {σ : zS} {w x : Int} (hw : -2147483648 ≤ w ∧ w < 2147483648) (hx : -2147483648 ≤ x ∧ x < 2147483648) (hA : zA σ) (hp : 0 ≤ M 187 3 ∧ M 187 3 ≤ 4) : zCall G yX5_set YX5_set [.inr (some 187), .inl w, .inl x] (zt M σ) (fun v M' => (sBarSet σ w x < 0 ∧ v = some (.inl (sBarSet σ w x)) ∧ M' = zt M σ) ∨ (sBarSet σ w x = 0 ∧ v = some (.inl (σ (531 + w))) ∧ zDone M σ (sDry (zu σ (531 + w) x)) M')) := by
  refine zEnter (by decide +kernel) rfl (Nat.le_of_ble_eq_true rfl) ?_
  have hI := hA.1
  have hs9 := hI.1
  unfold zIs at hs9
  refine z_iload_n dX5_set_0 rfl ?_
  refine z_iconst dX5_set_1 ?_
  refine z_iconst dX5_set_2 ?_
  refine z_callS mX5_in (vX5_in (by omega) (by omega) (by omega)) rfl dX5_set_3 kX5_32 (by decide) rfl (by show _ ≤ 8; simp) (fun v3 M3 q3 => ?_)
  obtain ⟨rfl, b3, rfl, h3⟩ := q3
  try simp only [zpush]
  refine z_if_ne (tgt := 11) dX5_set_6 (by decide) (by omega) (fun c6 => ?_) (fun c6 => ?_)
  · refine z_iload_n dX5_set_11 rfl ?_
    refine z_iload_n dX5_set_12 rfl ?_
    refine z_if_ne (tgt := 20) dX5_set_13 (by decide) (by omega) (fun c13 => ?_) (fun c13 => ?_)
    · refine z_iconst dX5_set_20 ?_
      refine z_iload_n dX5_set_21 rfl ?_
      refine z_callS mX5_most (vX5_most (by omega)) rfl dX5_set_22 kX5_80 (by decide) rfl (by show _ ≤ 8; simp) (fun v22 M22 q22 => ?_)
      obtain ⟨rfl, rfl⟩ := q22
      try simp only [zpush]
      have hmo : 9 ≤ sMost w ∧ sMost w ≤ 99 := by unfold sMost; repeat' split <;> omega
      refine z_callS mX5_in (vX5_in (by omega) (by omega) (by omega)) rfl dX5_set_25 kX5_32 (by decide) rfl (by show _ ≤ 8; simp) (fun v25 M25 q25 => ?_)
      obtain ⟨rfl, b25, rfl, h25⟩ := q25
      try simp only [zpush]
      refine z_if_ne (tgt := 34) dX5_set_28 (by decide) (by omega) (fun c28 => ?_) (fun c28 => ?_)
      · have hv9 : 0 ≤ σ (531 + w) ∧ σ (531 + w) ≤ 99 := by rcases (show w = 0 ∨ w = 1 ∨ w = 2 ∨ w = 3 by omega) with h | h | h | h <;> (rw [h]; simp only [Int.reduceAdd]; omega)
        refine z_aload_n dX5_set_34 rfl ?_
        refine z_getR (b := 188) dX5_set_35 fX5_7 (by decide) zsh187 rfl rfl ?_
        refine z_sipush dX5_set_38 (by decide) ?_
        refine z_iload_n dX5_set_41 rfl ?_
        refine z_iadd dX5_set_42 ?_
        refine z_sload dX5_set_43 (by omega) ?_
        refine z_iload_n dX5_set_44 rfl ?_
        refine z_icmp_ne (tgt := 51) dX5_set_45 (by decide) (by omega) (by omega) (fun c45 => ?_) (fun c45 => ?_)
        · refine z_aload_n dX5_set_51 rfl ?_
          refine z_callV mX5_records (vX5_records (by omega)) rfl dX5_set_52 kX5_57 (by decide) rfl (by show _ ≤ 8; simp) (by decide) zsh187 (by decide) rfl (fun v52 M52 q52 => ?_)
          obtain ⟨rfl, N52, rfl, hR52⟩ := q52
          try simp only [zpush]
          refine z_aload_n dX5_set_55 rfl ?_
          refine z_getR (b := 188) dX5_set_56 fX5_7 (by decide) zsh187 rfl rfl ?_
          refine z_sipush dX5_set_59 (by decide) ?_
          refine z_iload_n dX5_set_62 rfl ?_
          refine z_iadd dX5_set_63 ?_
          refine z_sload dX5_set_64 (by omega) ?_
          refine z_istore_n dX5_set_65 (by decide) ?_
          refine z_aload_n dX5_set_66 rfl ?_
          refine z_getR (b := 188) dX5_set_67 fX5_7 (by decide) zsh187 rfl rfl ?_
          refine z_sipush dX5_set_70 (by decide) ?_
          refine z_iload_n dX5_set_73 rfl ?_
          refine z_iadd dX5_set_74 ?_
          refine z_iload_n dX5_set_75 rfl ?_
          refine z_sstore dX5_set_76 (by omega) (fun σ76 hσ76 => ?_)
          refine z_aload_n dX5_set_77 rfl ?_
          refine z_callV mX5_dries (vX5_dries (by rw [hσ76]; exact zI_set hI (by omega) (by split <;> omega))) rfl dX5_set_78 kX5_84 (by decide) rfl (by show _ ≤ 8; simp) (by decide) zsh187 (by decide) rfl (fun v78 M78 q78 => ?_)
          obtain ⟨rfl, rfl⟩ := q78
          try simp only [zpush]
          refine z_iload_n dX5_set_81 rfl ?_
          refine z_iret dX5_set_82 rfl ?_
          have hb : sBarSet σ w x = 0 := by unfold sBarSet; rw [if_neg (by omega), if_neg (by split <;> omega), if_neg (by omega)]
          exact Or.inr ⟨hb, rfl, N52, by rw [hσ76], hR52⟩
        · refine z_bipush dX5_set_48 (by decide) ?_
          refine z_iret dX5_set_50 rfl ?_
          have hb : sBarSet σ w x = -5 := by unfold sBarSet; rw [if_neg (by omega), if_neg (by split <;> omega), if_pos (by omega)]
          exact Or.inl ⟨by omega, by rw [hb], rfl⟩
      · refine z_bipush dX5_set_31 (by decide) ?_
        refine z_iret dX5_set_33 rfl ?_
        have hb : sBarSet σ w x = -2 := by unfold sBarSet; rw [if_neg (by omega), if_pos (by split <;> omega)]
        exact Or.inl ⟨by omega, by rw [hb], rfl⟩
    · refine z_iconst dX5_set_16 ?_
      refine z_goto (tgt := 21) dX5_set_17 (by decide) ?_
      refine z_iload_n dX5_set_21 rfl ?_
      refine z_callS mX5_most (vX5_most (by omega)) rfl dX5_set_22 kX5_80 (by decide) rfl (by show _ ≤ 8; simp) (fun v22 M22 q22 => ?_)
      obtain ⟨rfl, rfl⟩ := q22
      try simp only [zpush]
      have hmo : 9 ≤ sMost w ∧ sMost w ≤ 99 := by unfold sMost; repeat' split <;> omega
      refine z_callS mX5_in (vX5_in (by omega) (by omega) (by omega)) rfl dX5_set_25 kX5_32 (by decide) rfl (by show _ ≤ 8; simp) (fun v25 M25 q25 => ?_)
      obtain ⟨rfl, b25, rfl, h25⟩ := q25
      try simp only [zpush]
      refine z_if_ne (tgt := 34) dX5_set_28 (by decide) (by omega) (fun c28 => ?_) (fun c28 => ?_)
      · have hv9 : 0 ≤ σ (531 + w) ∧ σ (531 + w) ≤ 99 := by rcases (show w = 0 ∨ w = 1 ∨ w = 2 ∨ w = 3 by omega) with h | h | h | h <;> (rw [h]; simp only [Int.reduceAdd]; omega)
        refine z_aload_n dX5_set_34 rfl ?_
        refine z_getR (b := 188) dX5_set_35 fX5_7 (by decide) zsh187 rfl rfl ?_
        refine z_sipush dX5_set_38 (by decide) ?_
        refine z_iload_n dX5_set_41 rfl ?_
        refine z_iadd dX5_set_42 ?_
        refine z_sload dX5_set_43 (by omega) ?_
        refine z_iload_n dX5_set_44 rfl ?_
        refine z_icmp_ne (tgt := 51) dX5_set_45 (by decide) (by omega) (by omega) (fun c45 => ?_) (fun c45 => ?_)
        · refine z_aload_n dX5_set_51 rfl ?_
          refine z_callV mX5_records (vX5_records (by omega)) rfl dX5_set_52 kX5_57 (by decide) rfl (by show _ ≤ 8; simp) (by decide) zsh187 (by decide) rfl (fun v52 M52 q52 => ?_)
          obtain ⟨rfl, N52, rfl, hR52⟩ := q52
          try simp only [zpush]
          refine z_aload_n dX5_set_55 rfl ?_
          refine z_getR (b := 188) dX5_set_56 fX5_7 (by decide) zsh187 rfl rfl ?_
          refine z_sipush dX5_set_59 (by decide) ?_
          refine z_iload_n dX5_set_62 rfl ?_
          refine z_iadd dX5_set_63 ?_
          refine z_sload dX5_set_64 (by omega) ?_
          refine z_istore_n dX5_set_65 (by decide) ?_
          refine z_aload_n dX5_set_66 rfl ?_
          refine z_getR (b := 188) dX5_set_67 fX5_7 (by decide) zsh187 rfl rfl ?_
          refine z_sipush dX5_set_70 (by decide) ?_
          refine z_iload_n dX5_set_73 rfl ?_
          refine z_iadd dX5_set_74 ?_
          refine z_iload_n dX5_set_75 rfl ?_
          refine z_sstore dX5_set_76 (by omega) (fun σ76 hσ76 => ?_)
          refine z_aload_n dX5_set_77 rfl ?_
          refine z_callV mX5_dries (vX5_dries (by rw [hσ76]; exact zI_set hI (by omega) (by split <;> omega))) rfl dX5_set_78 kX5_84 (by decide) rfl (by show _ ≤ 8; simp) (by decide) zsh187 (by decide) rfl (fun v78 M78 q78 => ?_)
          obtain ⟨rfl, rfl⟩ := q78
          try simp only [zpush]
          refine z_iload_n dX5_set_81 rfl ?_
          refine z_iret dX5_set_82 rfl ?_
          have hb : sBarSet σ w x = 0 := by unfold sBarSet; rw [if_neg (by omega), if_neg (by split <;> omega), if_neg (by omega)]
          exact Or.inr ⟨hb, rfl, N52, by rw [hσ76], hR52⟩
        · refine z_bipush dX5_set_48 (by decide) ?_
          refine z_iret dX5_set_50 rfl ?_
          have hb : sBarSet σ w x = -5 := by unfold sBarSet; rw [if_neg (by omega), if_neg (by split <;> omega), if_pos (by omega)]
          exact Or.inl ⟨by omega, by rw [hb], rfl⟩
      · refine z_bipush dX5_set_31 (by decide) ?_
        refine z_iret dX5_set_33 rfl ?_
        have hb : sBarSet σ w x = -2 := by unfold sBarSet; rw [if_neg (by omega), if_pos (by split <;> omega)]
        exact Or.inl ⟨by omega, by rw [hb], rfl⟩
  · refine z_iconst dX5_set_9 ?_
    refine z_iret dX5_set_10 rfl ?_
    have hb : sBarSet σ w x = -1 := by unfold sBarSet; rw [if_pos (by omega)]
    exact Or.inl ⟨by omega, by rw [hb], rfl⟩

theorem vX5_pass {G : zG} {M : zM} {σ : zS} {t : Int} (ht : -2147483648 ≤ t ∧ t < 2147483648) (hA : zA σ) (hB : 0 ≤ σ 536 ∧ σ 536 ≤ 99999) (hp : 0 ≤ M 187 3 ∧ M 187 3 ≤ 4) : zCall G yX5_pass YX5_pass [.inr (some 187), .inl t] (zt M σ) (fun v M' => (sBarT σ t < 0 ∧ v = some (.inl (sBarT σ t)) ∧ M' = zt M σ) ∨ (sBarT σ t = 0 ∧ v = some (.inl (sTs t σ 537 - σ 537)) ∧ zDone M σ (sTs t σ) M')) := by
  refine zEnter (by decide +kernel) rfl (Nat.le_of_ble_eq_true rfl) ?_
  have hI := hA.1
  have hs9 := hI.1
  unfold zIs at hs9
  refine z_aload_n dX5_pass_0 rfl ?_
  refine z_iload_n dX5_pass_1 rfl ?_
  refine z_callV mX5_barPass (vX5_barPass (by omega) (by omega)) rfl dX5_pass_2 kX5_107 (by decide) rfl (by show _ ≤ 8; simp) (by decide) zsh187 (by decide) rfl (fun v2 M2 q2 => ?_)
  obtain ⟨rfl, rfl⟩ := q2
  try simp only [zpush]
  have hbr := sBarT_r σ t
  have hb0 := fun h => sBarT_0 (σ := σ) (t := t) h
  refine z_istore_n dX5_pass_5 (by decide) ?_
  refine z_iload_n dX5_pass_6 rfl ?_
  refine z_if_ge (tgt := 12) dX5_pass_7 (by decide) (by omega) (fun c7 => ?_) (fun c7 => ?_)
  · have hb1 := hb0 (by omega)
    refine z_aload_n dX5_pass_12 rfl ?_
    refine z_callV mX5_records (vX5_records (by omega)) rfl dX5_pass_13 kX5_57 (by decide) rfl (by show _ ≤ 8; simp) (by decide) zsh187 (by decide) rfl (fun v13 M13 q13 => ?_)
    obtain ⟨rfl, N13, rfl, hR13⟩ := q13
    try simp only [zpush]
    refine z_aload_n dX5_pass_16 rfl ?_
    refine z_iload_n dX5_pass_17 rfl ?_
    refine z_callV mX5_passes (vX5_passes hA (by omega) (by omega)) rfl dX5_pass_18 kX5_110 (by decide) rfl (by show _ ≤ 8; simp) (by decide) zsh187 (by decide) rfl (fun v18 M18 q18 => ?_)
    obtain ⟨rfl, rfl⟩ := q18
    try simp only [zpush]
    refine z_iret dX5_pass_21 rfl ?_
    exact Or.inr ⟨by omega, rfl, N13, rfl, hR13⟩
  · refine z_iload_n dX5_pass_10 rfl ?_
    refine z_iret dX5_pass_11 rfl ?_
    exact Or.inl ⟨by omega, rfl, rfl⟩

theorem vX5_setSnail {G : zG} {M : zM} {σ : zS} {lane slime : Int} (hlane : -2147483648 ≤ lane ∧ lane < 2147483648) (hslime : -2147483648 ≤ slime ∧ slime < 2147483648) (hA : zA σ) (h8 : σ 535 ≤ 8) (hp : 0 ≤ M 187 3 ∧ M 187 3 ≤ 4) : zCall G yX5_setSnail YX5_setSnail [.inr (some 187), .inl lane, .inl slime] (zt M σ) (fun v M' => (sBarS σ lane slime < 0 ∧ v = some (.inl (sBarS σ lane slime)) ∧ M' = zt M σ) ∨ (sBarS σ lane slime = 0 ∧ v = some (.inl (σ 535)) ∧ zDone M σ (sCome σ lane slime) M')) := by
  refine zEnter (by decide +kernel) rfl (Nat.le_of_ble_eq_true rfl) ?_
  have hI := hA.1
  have hs9 := hI.1
  unfold zIs at hs9
  refine z_aload_n dX5_setSnail_0 rfl ?_
  refine z_iload_n dX5_setSnail_1 rfl ?_
  refine z_iload_n dX5_setSnail_2 rfl ?_
  refine z_callV mX5_barSnail (vX5_barSnail (by omega) (by omega) hI) rfl dX5_setSnail_3 kX5_54 (by decide) rfl (by show _ ≤ 8; simp) (by decide) zsh187 (by decide) rfl (fun v3 M3 q3 => ?_)
  obtain ⟨rfl, rfl⟩ := q3
  try simp only [zpush]
  have hbr := sBarS_r σ lane slime
  have hb0 := fun h => sBarS_0 (σ := σ) (lane := lane) (slime := slime) h
  refine z_istore_n dX5_setSnail_6 (by decide) ?_
  refine z_iload_n dX5_setSnail_7 rfl ?_
  refine z_if_ge (tgt := 13) dX5_setSnail_8 (by decide) (by omega) (fun c8 => ?_) (fun c8 => ?_)
  · have hb1 := hb0 (by omega)
    refine z_aload_n dX5_setSnail_13 rfl ?_
    refine z_callV mX5_records (vX5_records (by omega)) rfl dX5_setSnail_14 kX5_57 (by decide) rfl (by show _ ≤ 8; simp) (by decide) zsh187 (by decide) rfl (fun v14 M14 q14 => ?_)
    obtain ⟨rfl, N14, rfl, hR14⟩ := q14
    try simp only [zpush]
    refine z_aload_n dX5_setSnail_17 rfl ?_
    refine z_iload_n dX5_setSnail_18 rfl ?_
    refine z_iload_n dX5_setSnail_19 rfl ?_
    refine z_callV mX5_comes (vX5_comes (by omega)) rfl dX5_setSnail_20 kX5_60 (by decide) rfl (by show _ ≤ 8; simp) (by decide) zsh187 (by decide) rfl (fun v20 M20 q20 => ?_)
    obtain ⟨rfl, rfl⟩ := q20
    try simp only [zpush]
    refine z_iret dX5_setSnail_23 rfl ?_
    exact Or.inr ⟨by omega, rfl, N14, rfl, hR14⟩
  · refine z_iload_n dX5_setSnail_11 rfl ?_
    refine z_iret dX5_setSnail_12 rfl ?_
    exact Or.inl ⟨by omega, rfl, rfl⟩

theorem vX5_setFrost {G : zG} {M : zM} {σ : zS} {lane row f : Int} (hlane : -2147483648 ≤ lane ∧ lane < 2147483648) (hrow : -2147483648 ≤ row ∧ row < 2147483648) (hf : -2147483648 ≤ f ∧ f < 2147483648) (hA : zA σ) (hp : 0 ≤ M 187 3 ∧ M 187 3 ≤ 4) : zCall G yX5_setFrost YX5_setFrost [.inr (some 187), .inl lane, .inl row, .inl f] (zt M σ) (fun v M' => (sBarF σ lane row f < 0 ∧ v = some (.inl (sBarF σ lane row f)) ∧ M' = zt M σ) ∨ (sBarF σ lane row f = 0 ∧ v = some (.inl (σ (6 * row + lane))) ∧ zDone M σ (sFz σ (6 * row + lane) f) M')) := by
  refine zEnter (by decide +kernel) rfl (Nat.le_of_ble_eq_true rfl) ?_
  have hI := hA.1
  have hs9 := hI.1
  unfold zIs at hs9
  refine z_aload_n dX5_setFrost_0 rfl ?_
  refine z_iload_n dX5_setFrost_1 rfl ?_
  refine z_iload_n dX5_setFrost_2 rfl ?_
  refine z_iload_n dX5_setFrost_3 rfl ?_
  refine z_callV mX5_barFrost (vX5_barFrost (by omega) (by omega) (by omega) hI) rfl dX5_setFrost_4 kX5_73 (by decide) rfl (by show _ ≤ 8; simp) (by decide) zsh187 (by decide) rfl (fun v4 M4 q4 => ?_)
  obtain ⟨rfl, rfl⟩ := q4
  try simp only [zpush]
  have hbr := sBarF_r σ lane row f
  have hb0 := fun h => sBarF_0 (σ := σ) (lane := lane) (row := row) (f := f) h
  refine z_istore dX5_setFrost_7 (by decide) ?_
  refine z_iload dX5_setFrost_9 rfl ?_
  refine z_if_ge (tgt := 17) dX5_setFrost_11 (by decide) (by omega) (fun c11 => ?_) (fun c11 => ?_)
  · have hb1 := hb0 (by omega)
    refine z_aload_n dX5_setFrost_17 rfl ?_
    refine z_callV mX5_records (vX5_records (by omega)) rfl dX5_setFrost_18 kX5_57 (by decide) rfl (by show _ ≤ 8; simp) (by decide) zsh187 (by decide) rfl (fun v18 M18 q18 => ?_)
    obtain ⟨rfl, N18, rfl, hR18⟩ := q18
    try simp only [zpush]
    refine z_aload_n dX5_setFrost_21 rfl ?_
    refine z_iload_n dX5_setFrost_22 rfl ?_
    refine z_iload_n dX5_setFrost_23 rfl ?_
    refine z_iload_n dX5_setFrost_24 rfl ?_
    refine z_callV mX5_freezes (vX5_freezes (by omega) (by omega)) rfl dX5_setFrost_25 kX5_77 (by decide) rfl (by show _ ≤ 8; simp) (by decide) zsh187 (by decide) rfl (fun v25 M25 q25 => ?_)
    obtain ⟨rfl, rfl⟩ := q25
    try simp only [zpush]
    refine z_iret dX5_setFrost_28 rfl ?_
    exact Or.inr ⟨by omega, rfl, N18, rfl, hR18⟩
  · refine z_iload dX5_setFrost_14 rfl ?_
    refine z_iret dX5_setFrost_16 rfl ?_
    exact Or.inl ⟨by omega, rfl, rfl⟩

theorem vX5_takeOff {G : zG} {M : zM} {σ : zS} {k : Int} (hk : -2147483648 ≤ k ∧ k < 2147483648) (hA : zA σ) (hp : 0 ≤ M 187 3 ∧ M 187 3 ≤ 4) : zCall G yX5_takeOff YX5_takeOff [.inr (some 187), .inl k] (zt M σ) (fun v M' => (¬ (0 ≤ k ∧ k < σ 535) ∧ v = some (.inl (-1)) ∧ M' = zt M σ) ∨ ((0 ≤ k ∧ k < σ 535) ∧ ¬ σ (360 + 10 * k + 3) = 0 ∧ v = some (.inl (-4)) ∧ M' = zt M σ) ∨ ((0 ≤ k ∧ k < σ 535) ∧ σ (360 + 10 * k + 3) = 0 ∧ v = some (.inl (σ (360 + 10 * k + 1))) ∧ zDone M σ (zu σ (360 + 10 * k + 3) 2) M')) := by
  refine zEnter (by decide +kernel) rfl (Nat.le_of_ble_eq_true rfl) ?_
  have hI := hA.1
  have hs9 := hI.1
  unfold zIs at hs9
  refine z_aload_n dX5_takeOff_0 rfl ?_
  refine z_iload_n dX5_takeOff_1 rfl ?_
  refine z_callV mX5_isSnail (vX5_isSnail (by omega) hI) rfl dX5_takeOff_2 kX5_63 (by decide) rfl (by show _ ≤ 8; simp) (by decide) zsh187 (by decide) rfl (fun v2 M2 q2 => ?_)
  obtain ⟨rfl, b2, rfl, h2⟩ := q2
  try simp only [zpush]
  refine z_if_ne (tgt := 10) dX5_takeOff_5 (by decide) (by omega) (fun c5 => ?_) (fun c5 => ?_)
  · refine z_aload_n dX5_takeOff_10 rfl ?_
    refine z_iload_n dX5_takeOff_11 rfl ?_
    refine z_callV mX5_creeps (vX5_creeps (by omega) hI) rfl dX5_takeOff_12 kX5_48 (by decide) rfl (by show _ ≤ 8; simp) (by decide) zsh187 (by decide) rfl (fun v12 M12 q12 => ?_)
    obtain ⟨rfl, b12, rfl, h12⟩ := q12
    try simp only [zpush]
    refine z_if_ne (tgt := 21) dX5_takeOff_15 (by decide) (by omega) (fun c15 => ?_) (fun c15 => ?_)
    · refine z_aload_n dX5_takeOff_21 rfl ?_
      refine z_callV mX5_records (vX5_records (by omega)) rfl dX5_takeOff_22 kX5_57 (by decide) rfl (by show _ ≤ 8; simp) (by decide) zsh187 (by decide) rfl (fun v22 M22 q22 => ?_)
      obtain ⟨rfl, N22, rfl, hR22⟩ := q22
      try simp only [zpush]
      refine z_aload_n dX5_takeOff_25 rfl ?_
      refine z_getR (b := 188) dX5_takeOff_26 fX5_7 (by decide) zsh187 rfl rfl ?_
      refine z_iload_n dX5_takeOff_29 rfl ?_
      refine z_iconst dX5_takeOff_30 ?_
      refine z_callS mX5_of vX5_of rfl dX5_takeOff_31 kX5_40 (by decide) rfl (by show _ ≤ 8; simp) (fun v31 M31 q31 => ?_)
      obtain ⟨rfl, rfl⟩ := q31
      try simp only [zpush]
      refine z_iconst dX5_takeOff_34 ?_
      refine z_sstore dX5_takeOff_35 (by omega) (fun σ35 hσ35 => ?_)
      refine z_aload_n dX5_takeOff_36 rfl ?_
      refine z_getR (b := 188) dX5_takeOff_37 fX5_7 (by decide) zsh187 rfl rfl ?_
      refine z_iload_n dX5_takeOff_40 rfl ?_
      refine z_iconst dX5_takeOff_41 ?_
      refine z_callS mX5_of vX5_of rfl dX5_takeOff_42 kX5_40 (by decide) rfl (by show _ ≤ 8; simp) (fun v42 M42 q42 => ?_)
      obtain ⟨rfl, rfl⟩ := q42
      try simp only [zpush]
      refine z_sload dX5_takeOff_45 (by omega) ?_
      refine z_iret dX5_takeOff_46 rfl ?_
      exact Or.inr (Or.inr ⟨by omega, by omega, by rw [hσ35, zu_ne (by omega)], N22, by rw [hσ35], hR22⟩)
    · refine z_bipush dX5_takeOff_18 (by decide) ?_
      refine z_iret dX5_takeOff_20 rfl ?_
      exact Or.inr (Or.inl ⟨by omega, by omega, rfl, rfl⟩)
  · refine z_iconst dX5_takeOff_8 ?_
    refine z_iret dX5_takeOff_9 rfl ?_
    exact Or.inl ⟨by omega, rfl, rfl⟩

theorem vX5_endsIn {G : zG} {M : zM} {σ : zS} {k : Int} (hk : -2147483648 ≤ k ∧ k < 2147483648) (hA : zA σ) (hB : 0 ≤ σ 536 ∧ σ 536 ≤ 99999) : zCall G yX5_endsIn YX5_endsIn [.inr (some 187), .inl k] (zt M σ) (fun v M' => v = some (.inl (sEndsIn σ k)) ∧ ∃ N : zM, M' = zt N σ ∧ ∀ a : Int, a ≠ 189 → N a = M a) := by
  refine zEnter (by decide +kernel) rfl (Nat.le_of_ble_eq_true rfl) ?_
  have hI := hA.1
  have hs9 := hI.1
  unfold zIs at hs9
  refine z_aload_n dX5_endsIn_0 rfl ?_
  refine z_iload_n dX5_endsIn_1 rfl ?_
  refine z_callV mX5_isSnail (vX5_isSnail (by omega) hI) rfl dX5_endsIn_2 kX5_63 (by decide) rfl (by show _ ≤ 8; simp) (by decide) zsh187 (by decide) rfl (fun v2 M2 q2 => ?_)
  obtain ⟨rfl, b2, rfl, h2⟩ := q2
  try simp only [zpush]
  refine z_if_ne (tgt := 10) dX5_endsIn_5 (by decide) (by omega) (fun c5 => ?_) (fun c5 => ?_)
  · refine z_aload_n dX5_endsIn_10 rfl ?_
    refine z_getR (b := 188) dX5_endsIn_11 fX5_7 (by decide) zsh187 rfl rfl ?_
    refine z_iload_n dX5_endsIn_14 rfl ?_
    refine z_iconst dX5_endsIn_15 ?_
    refine z_callS mX5_of vX5_of rfl dX5_endsIn_16 kX5_40 (by decide) rfl (by show _ ≤ 8; simp) (fun v16 M16 q16 => ?_)
    obtain ⟨rfl, rfl⟩ := q16
    try simp only [zpush]
    have hk9 := hI.2.2 k (by omega) (by omega)
    unfold zIk at hk9
    refine z_sload dX5_endsIn_19 (by omega) ?_
    refine z_iconst dX5_endsIn_20 ?_
    refine z_icmp_ne (tgt := 27) dX5_endsIn_21 (by decide) (by omega) (by omega) (fun c21 => ?_) (fun c21 => ?_)
    · refine z_aload_n dX5_endsIn_27 rfl ?_
      refine z_callV mX5_putAside vX5_putAside rfl dX5_endsIn_28 kX5_152 (by decide) rfl (by show _ ≤ 8; simp) (by decide) zsh187 (by decide) rfl (fun v28 M28 q28 => ?_)
      obtain ⟨rfl, N28, rfl, hP28, hQ28⟩ := q28
      try simp only [zpush]
      refine z_aload_n dX5_endsIn_31 rfl ?_
      refine z_iload_n dX5_endsIn_32 rfl ?_
      refine z_callV mX5_ends (vX5_ends hA (by omega) (by omega)) rfl dX5_endsIn_33 kX5_173 (by decide) rfl (by show _ ≤ 8; simp) (by decide) zsh187 (by decide) rfl (fun v33 M33 q33 => ?_)
      obtain ⟨rfl, σ33, rfl, hE33⟩ := q33
      try simp only [zpush]
      refine z_istore_n dX5_endsIn_36 (by decide) ?_
      refine z_aload_n dX5_endsIn_37 rfl ?_
      refine z_callV mX5_putBack vX5_putBack rfl dX5_endsIn_38 kX5_158 (by decide) rfl (by show _ ≤ 8; simp) (by decide) zsh187 (by decide) rfl (fun v38 M38 q38 => ?_)
      obtain ⟨rfl, σ38, rfl, hB38, hO38⟩ := q38
      try simp only [zpush]
      refine z_iload_n dX5_endsIn_41 rfl ?_
      refine z_iret dX5_endsIn_42 rfl ?_
      have es : σ38 = σ := by
        funext j
        by_cases hj : 0 ≤ j ∧ j < 538
        · rw [hB38 j hj.1 hj.2, hQ28 j hj.1 hj.2]
        · rw [hO38 j (by omega), hE33 j (by omega)]
      exact ⟨by unfold sEndsIn; rw [if_neg (by omega), if_neg (by omega)], N28, by rw [es], hP28⟩
    · refine z_bipush dX5_endsIn_24 (by decide) ?_
      refine z_iret dX5_endsIn_26 rfl ?_
      exact ⟨by unfold sEndsIn; rw [if_neg (by omega), if_pos (by omega)], M, rfl, fun _ _ => rfl⟩
  · refine z_iconst dX5_endsIn_8 ?_
    refine z_iret dX5_endsIn_9 rfl ?_
    exact ⟨by unfold sEndsIn; rw [if_pos (by omega)], M, rfl, fun _ _ => rfl⟩

theorem vX5_bestLane {G : zG} {M : zM} {σ : zS} {slime w : Int} (hslime : -2147483648 ≤ slime ∧ slime < 2147483648) (hw : -2147483648 ≤ w ∧ w < 2147483648) (hA : zA σ) (hB : 0 ≤ σ 536 ∧ σ 536 ≤ 99999) (h8 : σ 535 ≤ 8) : zCall G yX5_bestLane YX5_bestLane [.inr (some 187), .inl slime, .inl w] (zt M σ) (fun v M' => v = some (.inl (sBestLane σ slime w)) ∧ ∃ N : zM, M' = zt N σ ∧ ∀ a : Int, a ≠ 189 → N a = M a) := by
  refine zEnter (by decide +kernel) rfl (Nat.le_of_ble_eq_true rfl) ?_
  have hI := hA.1
  have hs9 := hI.1
  unfold zIs at hs9
  refine z_iload_n dX5_bestLane_0 rfl ?_
  refine z_iconst dX5_bestLane_1 ?_
  refine z_bipush dX5_bestLane_2 (by decide) ?_
  refine z_callS mX5_in (vX5_in (by omega) (by omega) (by omega)) rfl dX5_bestLane_4 kX5_32 (by decide) rfl (by show _ ≤ 8; simp) (fun v4 M4 q4 => ?_)
  obtain ⟨rfl, b4, rfl, h4⟩ := q4
  try simp only [zpush]
  refine z_if_eq (tgt := 19) dX5_bestLane_7 (by decide) (by omega) (fun c7 => ?_) (fun c7 => ?_)
  · refine z_bipush dX5_bestLane_19 (by decide) ?_
    refine z_iret dX5_bestLane_21 rfl ?_
    exact ⟨by unfold sBestLane; rw [if_pos (by omega)], M, rfl, fun _ _ => rfl⟩
  · refine z_iload_n dX5_bestLane_10 rfl ?_
    refine z_iconst dX5_bestLane_11 ?_
    refine z_iconst dX5_bestLane_12 ?_
    refine z_callS mX5_in (vX5_in (by omega) (by omega) (by omega)) rfl dX5_bestLane_13 kX5_32 (by decide) rfl (by show _ ≤ 8; simp) (fun v13 M13 q13 => ?_)
    obtain ⟨rfl, b13, rfl, h13⟩ := q13
    try simp only [zpush]
    refine z_if_ne (tgt := 22) dX5_bestLane_16 (by decide) (by omega) (fun c16 => ?_) (fun c16 => ?_)
    · refine z_bipush dX5_bestLane_22 (by decide) ?_
      refine z_istore_n dX5_bestLane_24 (by decide) ?_
      refine z_bipush dX5_bestLane_25 (by decide) ?_
      refine z_istore dX5_bestLane_27 (by decide) ?_
      refine z_iconst dX5_bestLane_29 ?_
      refine z_istore dX5_bestLane_30 (by decide) ?_
      have L : ∀ (n : Nat) (c : Int) (f : Int) (t : Int) (N : zM), (0 ≤ c ∧ c ≤ 6) → (c + n = 7) → ((f = -5 ∧ t = -5) ∨ ((0 ≤ f ∧ f ≤ 5) ∧ (0 ≤ t ∧ t ≤ 300))) → (zfor (sBestF σ slime) c 6 (f, t) = sBest σ slime) → (∀ a : Int, a ≠ 189 → N a = M a) → zW G YX5_bestLane (fun v M' => v = some (.inl (sBestLane σ slime w)) ∧ ∃ N : zM, M' = zt N σ ∧ ∀ a : Int, a ≠ 189 → N a = M a) 32 [(5, .inl c), (3, .inl f), (4, .inl t), (0, .inr (some 187)), (1, .inl slime), (2, .inl w)] [] (zt N σ) := by
        intro n
        induction n with
        | zero => intro c f t N hc hcn hf he hN; exfalso; omega
        | succ n ih =>
          intro c f t N hc hcn hf he hN
          refine z_iload dX5_bestLane_32 rfl ?_
          refine z_bipush dX5_bestLane_34 (by decide) ?_
          refine z_icmp_ge (tgt := 105) dX5_bestLane_36 (by decide) (by omega) (by omega) (fun c36 => ?_) (fun c36 => ?_)
          · rw [zfor_end (by omega)] at he
            refine z_iload_n dX5_bestLane_105 rfl ?_
            refine z_if_ne (tgt := 113) dX5_bestLane_106 (by decide) (by omega) (fun c106 => ?_) (fun c106 => ?_)
            · refine z_iload dX5_bestLane_113 rfl ?_
              refine z_iret dX5_bestLane_115 rfl ?_
              refine ⟨?_, N, rfl, hN⟩
              unfold sBestLane
              rw [if_neg (by omega), ← he]
              first | rw [if_pos (by omega)] | rw [if_neg (by omega)]
            · refine z_iload_n dX5_bestLane_109 rfl ?_
              refine z_goto (tgt := 115) dX5_bestLane_110 (by decide) ?_
              refine z_iret dX5_bestLane_115 rfl ?_
              refine ⟨?_, N, rfl, hN⟩
              unfold sBestLane
              rw [if_neg (by omega), ← he]
              first | rw [if_pos (by omega)] | rw [if_neg (by omega)]
          · rw [zfor_step (by omega)] at he
            refine z_aload_n dX5_bestLane_39 rfl ?_
            refine z_iload dX5_bestLane_40 rfl ?_
            refine z_iconst dX5_bestLane_42 ?_
            refine z_callV mX5_snailOn (vX5_snailOn (by omega) (by omega) hI) rfl dX5_bestLane_43 kX5_51 (by decide) rfl (by show _ ≤ 8; simp) (by decide) zsh187 (by decide) rfl (fun v43 M43 q43 => ?_)
            obtain ⟨rfl, rfl⟩ := q43
            try simp only [zpush]
            have hor := sOn_r hI c 0
            refine z_bipush dX5_bestLane_46 (by decide) ?_
            refine z_icmp_ne (tgt := 99) dX5_bestLane_48 (by decide) (by omega) (by omega) (fun c48 => ?_) (fun c48 => ?_)
            · refine z_iinc dX5_bestLane_99 rfl (by decide) ?_
              refine z_goto (tgt := 32) dX5_bestLane_102 (by decide) ?_
              first
                | (rw [show sBestF σ slime c (f, t) = (c, sEnds (σ 535) 0 (sCome σ c slime)) from by unfold sBestF; rw [if_pos (by omega)]] at he; exact zsub' (ih (c + 1) c _ N52 (by omega) (by omega) (by omega) he (fun a ha => by rw [hP52 a ha]; exact hN a ha)) ⟨rfl, rfl, rfl, rfl, rfl, rfl, trivial⟩)
                | (rw [show sBestF σ slime c (f, t) = (f, t) from by unfold sBestF; rw [if_neg (by omega)]] at he; first | exact zsub' (ih (c + 1) f t N52 (by omega) (by omega) hf he (fun a ha => by rw [hP52 a ha]; exact hN a ha)) ⟨rfl, rfl, rfl, rfl, rfl, rfl, trivial⟩ | exact zsub' (ih (c + 1) f t N (by omega) (by omega) hf he hN) ⟨rfl, rfl, rfl, rfl, rfl, rfl, trivial⟩)
            · have hcA := zA_come hA (by omega) (lane := c) (slime := slime) (by omega) (by omega)
              refine z_aload_n dX5_bestLane_51 rfl ?_
              refine z_callV mX5_putAside vX5_putAside rfl dX5_bestLane_52 kX5_152 (by decide) rfl (by show _ ≤ 8; simp) (by decide) zsh187 (by decide) rfl (fun v52 M52 q52 => ?_)
              obtain ⟨rfl, N52, rfl, hP52, hQ52⟩ := q52
              try simp only [zpush]
              refine z_aload_n dX5_bestLane_55 rfl ?_
              refine z_aload_n dX5_bestLane_56 rfl ?_
              refine z_iload dX5_bestLane_57 rfl ?_
              refine z_iload_n dX5_bestLane_59 rfl ?_
              refine z_callV mX5_comes (vX5_comes (by omega)) rfl dX5_bestLane_60 kX5_60 (by decide) rfl (by show _ ≤ 8; simp) (by decide) zsh187 (by decide) rfl (fun v60 M60 q60 => ?_)
              obtain ⟨rfl, rfl⟩ := q60
              try simp only [zpush]
              refine z_callV mX5_ends (vX5_ends hcA.1 (by rw [hcA.2]; omega) (by omega)) rfl dX5_bestLane_63 kX5_173 (by decide) rfl (by show _ ≤ 8; simp) (by decide) zsh187 (by decide) rfl (fun v63 M63 q63 => ?_)
              obtain ⟨rfl, σ63, rfl, hE63⟩ := q63
              try simp only [zpush]
              have her := sEnds_r (σ 535) 0 (sCome σ c slime) (by omega)
              refine z_istore dX5_bestLane_66 (by decide) ?_
              refine z_aload_n dX5_bestLane_68 rfl ?_
              refine z_callV mX5_putBack vX5_putBack rfl dX5_bestLane_69 kX5_158 (by decide) rfl (by show _ ≤ 8; simp) (by decide) zsh187 (by decide) rfl (fun v69 M69 q69 => ?_)
              obtain ⟨rfl, σ69, rfl, hB69, hO69⟩ := q69
              try simp only [zpush]
              have es : σ69 = σ := by
                funext j
                by_cases hj : 0 ≤ j ∧ j < 538
                · rw [hB69 j hj.1 hj.2, hQ52 j hj.1 hj.2]
                · rw [hO69 j (by omega), hE63 j (by omega), zo_come (by omega) j (by omega)]
              rw [es]
              refine z_iload dX5_bestLane_72 rfl ?_
              refine z_bipush dX5_bestLane_74 (by decide) ?_
              refine z_icmp_eq (tgt := 99) dX5_bestLane_76 (by decide) (by omega) (by omega) (fun c76 => ?_) (fun c76 => ?_)
              · refine z_iinc dX5_bestLane_99 rfl (by decide) ?_
                refine z_goto (tgt := 32) dX5_bestLane_102 (by decide) ?_
                first
                  | (rw [show sBestF σ slime c (f, t) = (c, sEnds (σ 535) 0 (sCome σ c slime)) from by unfold sBestF; rw [if_pos (by omega)]] at he; exact zsub' (ih (c + 1) c _ N52 (by omega) (by omega) (by omega) he (fun a ha => by rw [hP52 a ha]; exact hN a ha)) ⟨rfl, rfl, rfl, rfl, rfl, rfl, trivial⟩)
                  | (rw [show sBestF σ slime c (f, t) = (f, t) from by unfold sBestF; rw [if_neg (by omega)]] at he; first | exact zsub' (ih (c + 1) f t N52 (by omega) (by omega) hf he (fun a ha => by rw [hP52 a ha]; exact hN a ha)) ⟨rfl, rfl, rfl, rfl, rfl, rfl, trivial⟩ | exact zsub' (ih (c + 1) f t N (by omega) (by omega) hf he hN) ⟨rfl, rfl, rfl, rfl, rfl, rfl, trivial⟩)
              · refine z_iload_n dX5_bestLane_79 rfl ?_
                refine z_bipush dX5_bestLane_80 (by decide) ?_
                refine z_icmp_eq (tgt := 92) dX5_bestLane_82 (by decide) (by omega) (by omega) (fun c82 => ?_) (fun c82 => ?_)
                · refine z_iload dX5_bestLane_92 rfl ?_
                  refine z_istore_n dX5_bestLane_94 (by decide) ?_
                  refine z_iload dX5_bestLane_95 rfl ?_
                  refine z_istore dX5_bestLane_97 (by decide) ?_
                  refine z_iinc dX5_bestLane_99 rfl (by decide) ?_
                  refine z_goto (tgt := 32) dX5_bestLane_102 (by decide) ?_
                  first
                    | (rw [show sBestF σ slime c (f, t) = (c, sEnds (σ 535) 0 (sCome σ c slime)) from by unfold sBestF; rw [if_pos (by omega)]] at he; exact zsub' (ih (c + 1) c _ N52 (by omega) (by omega) (by omega) he (fun a ha => by rw [hP52 a ha]; exact hN a ha)) ⟨rfl, rfl, rfl, rfl, rfl, rfl, trivial⟩)
                    | (rw [show sBestF σ slime c (f, t) = (f, t) from by unfold sBestF; rw [if_neg (by omega)]] at he; first | exact zsub' (ih (c + 1) f t N52 (by omega) (by omega) hf he (fun a ha => by rw [hP52 a ha]; exact hN a ha)) ⟨rfl, rfl, rfl, rfl, rfl, rfl, trivial⟩ | exact zsub' (ih (c + 1) f t N (by omega) (by omega) hf he hN) ⟨rfl, rfl, rfl, rfl, rfl, rfl, trivial⟩)
                · refine z_iload dX5_bestLane_85 rfl ?_
                  refine z_iload dX5_bestLane_87 rfl ?_
                  refine z_icmp_ge (tgt := 99) dX5_bestLane_89 (by decide) (by omega) (by omega) (fun c89 => ?_) (fun c89 => ?_)
                  · refine z_iinc dX5_bestLane_99 rfl (by decide) ?_
                    refine z_goto (tgt := 32) dX5_bestLane_102 (by decide) ?_
                    first
                      | (rw [show sBestF σ slime c (f, t) = (c, sEnds (σ 535) 0 (sCome σ c slime)) from by unfold sBestF; rw [if_pos (by omega)]] at he; exact zsub' (ih (c + 1) c _ N52 (by omega) (by omega) (by omega) he (fun a ha => by rw [hP52 a ha]; exact hN a ha)) ⟨rfl, rfl, rfl, rfl, rfl, rfl, trivial⟩)
                      | (rw [show sBestF σ slime c (f, t) = (f, t) from by unfold sBestF; rw [if_neg (by omega)]] at he; first | exact zsub' (ih (c + 1) f t N52 (by omega) (by omega) hf he (fun a ha => by rw [hP52 a ha]; exact hN a ha)) ⟨rfl, rfl, rfl, rfl, rfl, rfl, trivial⟩ | exact zsub' (ih (c + 1) f t N (by omega) (by omega) hf he hN) ⟨rfl, rfl, rfl, rfl, rfl, rfl, trivial⟩)
                  · refine z_iload dX5_bestLane_92 rfl ?_
                    refine z_istore_n dX5_bestLane_94 (by decide) ?_
                    refine z_iload dX5_bestLane_95 rfl ?_
                    refine z_istore dX5_bestLane_97 (by decide) ?_
                    refine z_iinc dX5_bestLane_99 rfl (by decide) ?_
                    refine z_goto (tgt := 32) dX5_bestLane_102 (by decide) ?_
                    first
                      | (rw [show sBestF σ slime c (f, t) = (c, sEnds (σ 535) 0 (sCome σ c slime)) from by unfold sBestF; rw [if_pos (by omega)]] at he; exact zsub' (ih (c + 1) c _ N52 (by omega) (by omega) (by omega) he (fun a ha => by rw [hP52 a ha]; exact hN a ha)) ⟨rfl, rfl, rfl, rfl, rfl, rfl, trivial⟩)
                      | (rw [show sBestF σ slime c (f, t) = (f, t) from by unfold sBestF; rw [if_neg (by omega)]] at he; first | exact zsub' (ih (c + 1) f t N52 (by omega) (by omega) hf he (fun a ha => by rw [hP52 a ha]; exact hN a ha)) ⟨rfl, rfl, rfl, rfl, rfl, rfl, trivial⟩ | exact zsub' (ih (c + 1) f t N (by omega) (by omega) hf he hN) ⟨rfl, rfl, rfl, rfl, rfl, rfl, trivial⟩)
      exact zsub' (L 7 0 (-5) (-5) M (by omega) (by omega) (by omega) rfl (fun _ _ => rfl)) ⟨rfl, rfl, rfl, rfl, rfl, rfl, trivial⟩
    · refine z_bipush dX5_bestLane_19 (by decide) ?_
      refine z_iret dX5_bestLane_21 rfl ?_
      exact ⟨by unfold sBestLane; rw [if_pos (by omega)], M, rfl, fun _ _ => rfl⟩
