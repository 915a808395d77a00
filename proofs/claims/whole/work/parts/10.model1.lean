theorem vX5_in {G : zG} {M : zM} {x a b : Int} (hx : -2147483648 ≤ x ∧ x < 2147483648) (ha : -2147483648 ≤ a ∧ a < 2147483648) (hb : -2147483648 ≤ b ∧ b < 2147483648) : zCall G yX5_in YX5_in [.inl x, .inl a, .inl b] M (fun v M' => M' = M ∧ ∃ zb : Int, v = some (.inl zb) ∧ ((zb = 1 ∧ (a ≤ x ∧ x ≤ b)) ∨ (zb = 0 ∧ ¬ (a ≤ x ∧ x ≤ b)))) := by
  refine zEnter (by decide +kernel) rfl (Nat.le_of_ble_eq_true rfl) ?_
  refine z_iload_n dX5_in_0 rfl ?_
  refine z_iload_n dX5_in_1 rfl ?_
  refine z_icmp_lt (tgt := 14) dX5_in_2 (by decide) (by omega) (by omega) (fun c2 => ?_) (fun c2 => ?_)
  · refine z_iconst dX5_in_14 ?_
    refine z_zret dX5_in_15 rfl (by omega) ?_
    exact ⟨rfl, _, rfl, by omega⟩
  · refine z_iload_n dX5_in_5 rfl ?_
    refine z_iload_n dX5_in_6 rfl ?_
    refine z_icmp_gt (tgt := 14) dX5_in_7 (by decide) (by omega) (by omega) (fun c7 => ?_) (fun c7 => ?_)
    · refine z_iconst dX5_in_14 ?_
      refine z_zret dX5_in_15 rfl (by omega) ?_
      exact ⟨rfl, _, rfl, by omega⟩
    · refine z_iconst dX5_in_10 ?_
      refine z_goto (tgt := 15) dX5_in_11 (by decide) ?_
      refine z_zret dX5_in_15 rfl (by omega) ?_
      exact ⟨rfl, _, rfl, by omega⟩

theorem vX5_isLane {G : zG} {M : zM} {x : Int} (hx : -2147483648 ≤ x ∧ x < 2147483648) : zCall G yX5_isLane YX5_isLane [.inl x] M (fun v M' => M' = M ∧ ∃ zb : Int, v = some (.inl zb) ∧ ((zb = 1 ∧ (0 ≤ x ∧ x ≤ 5)) ∨ (zb = 0 ∧ ¬ (0 ≤ x ∧ x ≤ 5)))) := by
  refine zEnter (by decide +kernel) rfl (Nat.le_of_ble_eq_true rfl) ?_
  refine z_iload_n dX5_isLane_0 rfl ?_
  refine z_iconst dX5_isLane_1 ?_
  refine z_iconst dX5_isLane_2 ?_
  refine z_callS mX5_in (vX5_in hx (by omega) (by omega)) rfl dX5_isLane_3 kX5_32 (by decide) rfl (by show _ ≤ 8; simp) (fun v3 M3 q3 => ?_)
  obtain ⟨rfl, b3, rfl, h3⟩ := q3
  try simp only [zpush]
  refine z_zret dX5_isLane_6 rfl (by omega) ?_
  exact ⟨rfl, _, rfl, by omega⟩

theorem vX5_isCell {G : zG} {M : zM} {x y : Int} (hx : -2147483648 ≤ x ∧ x < 2147483648) (hy : -2147483648 ≤ y ∧ y < 2147483648) : zCall G yX5_isCell YX5_isCell [.inl x, .inl y] M (fun v M' => M' = M ∧ ∃ zb : Int, v = some (.inl zb) ∧ ((zb = 1 ∧ ((0 ≤ x ∧ x ≤ 5) ∧ (0 ≤ y ∧ y ≤ 19))) ∨ (zb = 0 ∧ ¬ ((0 ≤ x ∧ x ≤ 5) ∧ (0 ≤ y ∧ y ≤ 19))))) := by
  refine zEnter (by decide +kernel) rfl (Nat.le_of_ble_eq_true rfl) ?_
  refine z_iload_n dX5_isCell_0 rfl ?_
  refine z_callS mX5_isLane (vX5_isLane hx) rfl dX5_isCell_1 kX5_36 (by decide) rfl (by show _ ≤ 8; simp) (fun v1 M1 q1 => ?_)
  obtain ⟨rfl, b1, rfl, h1⟩ := q1
  try simp only [zpush]
  refine z_if_eq (tgt := 21) dX5_isCell_4 (by decide) (by omega) (fun c4 => ?_) (fun c4 => ?_)
  · refine z_iconst dX5_isCell_21 ?_
    refine z_zret dX5_isCell_22 rfl (by omega) ?_
    exact ⟨rfl, _, rfl, by omega⟩
  · refine z_iload_n dX5_isCell_7 rfl ?_
    refine z_iconst dX5_isCell_8 ?_
    refine z_bipush dX5_isCell_9 (by decide) ?_
    refine z_callS mX5_in (vX5_in hy (by omega) (by omega)) rfl dX5_isCell_11 kX5_32 (by decide) rfl (by show _ ≤ 8; simp) (fun v11 M11 q11 => ?_)
    obtain ⟨rfl, b11, rfl, h11⟩ := q11
    try simp only [zpush]
    refine z_if_eq (tgt := 21) dX5_isCell_14 (by decide) (by omega) (fun c14 => ?_) (fun c14 => ?_)
    · refine z_iconst dX5_isCell_21 ?_
      refine z_zret dX5_isCell_22 rfl (by omega) ?_
      exact ⟨rfl, _, rfl, by omega⟩
    · refine z_iconst dX5_isCell_17 ?_
      refine z_goto (tgt := 22) dX5_isCell_18 (by decide) ?_
      refine z_zret dX5_isCell_22 rfl (by omega) ?_
      exact ⟨rfl, _, rfl, by omega⟩

theorem vX5_isSnail {G : zG} {M : zM} {x : Int} (hx : -2147483648 ≤ x ∧ x < 2147483648) (hI : zI (M 188)) : zCall G yX5_isSnail YX5_isSnail [.inr (some 187), .inl x] M (fun v M' => M' = M ∧ ∃ zb : Int, v = some (.inl zb) ∧ ((zb = 1 ∧ (0 ≤ x ∧ x < M 188 535)) ∨ (zb = 0 ∧ ¬ (0 ≤ x ∧ x < M 188 535)))) := by
  refine zEnter (by decide +kernel) rfl (Nat.le_of_ble_eq_true rfl) ?_
  have hm := hI.1.2.2.2.2
  refine z_iload_n dX5_isSnail_0 rfl ?_
  refine z_iconst dX5_isSnail_1 ?_
  refine z_aload_n dX5_isSnail_2 rfl ?_
  refine z_getR (b := 188) dX5_isSnail_3 fX5_7 (by decide) zsh187 rfl rfl ?_
  refine z_sipush dX5_isSnail_6 (by decide) ?_
  refine z_iaload dX5_isSnail_9 (by decide) (zsh188) (by omega) (by decide) ?_
  refine z_iconst dX5_isSnail_10 ?_
  refine z_isub dX5_isSnail_11 ?_
  refine z_callS mX5_in (vX5_in hx (by omega) (by omega)) rfl dX5_isSnail_12 kX5_32 (by decide) rfl (by show _ ≤ 8; simp) (fun v12 M12 q12 => ?_)
  obtain ⟨rfl, b12, rfl, h12⟩ := q12
  try simp only [zpush]
  refine z_zret dX5_isSnail_15 rfl (by omega) ?_
  exact ⟨rfl, _, rfl, by omega⟩

theorem vX5_of {G : zG} {M : zM} {k w : Int}  : zCall G yX5_of YX5_of [.inl k, .inl w] M (fun v M' => M' = M ∧ v = some (.inl (360 + 10 * k + w))) := by
  refine zEnter (by decide +kernel) rfl (Nat.le_of_ble_eq_true rfl) ?_
  refine z_sipush dX5_of_0 (by decide) ?_
  refine z_bipush dX5_of_3 (by decide) ?_
  refine z_iload_n dX5_of_5 rfl ?_
  refine z_imul dX5_of_6 ?_
  refine z_iadd dX5_of_7 ?_
  refine z_iload_n dX5_of_8 rfl ?_
  refine z_iadd dX5_of_9 ?_
  refine z_iret dX5_of_10 rfl ?_
  exact ⟨rfl, rfl⟩

theorem vX5_at {G : zG} {M : zM} {x y : Int}  : zCall G yX5_at YX5_at [.inl x, .inl y] M (fun v M' => M' = M ∧ v = some (.inl (6 * y + x))) := by
  refine zEnter (by decide +kernel) rfl (Nat.le_of_ble_eq_true rfl) ?_
  refine z_bipush dX5_at_0 (by decide) ?_
  refine z_iload_n dX5_at_2 rfl ?_
  refine z_imul dX5_at_3 ?_
  refine z_iload_n dX5_at_4 rfl ?_
  refine z_iadd dX5_at_5 ?_
  refine z_iret dX5_at_6 rfl ?_
  exact ⟨rfl, rfl⟩

theorem vX5_creeps {G : zG} {M : zM} {k : Int} (hk : 0 ≤ k ∧ k < 9) (hI : zI (M 188)) : zCall G yX5_creeps YX5_creeps [.inr (some 187), .inl k] M (fun v M' => M' = M ∧ ∃ zb : Int, v = some (.inl zb) ∧ ((zb = 1 ∧ (M 188 (360 + 10 * k + 3) = 0)) ∨ (zb = 0 ∧ ¬ (M 188 (360 + 10 * k + 3) = 0)))) := by
  refine zEnter (by decide +kernel) rfl (Nat.le_of_ble_eq_true rfl) ?_
  have hk9 := hI.2.2 k hk.1 hk.2
  unfold zIk at hk9
  refine z_aload_n dX5_creeps_0 rfl ?_
  refine z_getR (b := 188) dX5_creeps_1 fX5_7 (by decide) zsh187 rfl rfl ?_
  refine z_iload_n dX5_creeps_4 rfl ?_
  refine z_iconst dX5_creeps_5 ?_
  refine z_callS mX5_of vX5_of rfl dX5_creeps_6 kX5_40 (by decide) rfl (by show _ ≤ 8; simp) (fun v6 M6 q6 => ?_)
  obtain ⟨rfl, rfl⟩ := q6
  try simp only [zpush]
  refine z_iaload dX5_creeps_9 (by decide) (zsh188) (by omega) (by decide) ?_
  refine z_if_ne (tgt := 17) dX5_creeps_10 (by decide) (by omega) (fun c10 => ?_) (fun c10 => ?_)
  · refine z_iconst dX5_creeps_17 ?_
    refine z_zret dX5_creeps_18 rfl (by omega) ?_
    exact ⟨rfl, _, rfl, by omega⟩
  · refine z_iconst dX5_creeps_13 ?_
    refine z_goto (tgt := 18) dX5_creeps_14 (by decide) ?_
    refine z_zret dX5_creeps_18 rfl (by omega) ?_
    exact ⟨rfl, _, rfl, by omega⟩
