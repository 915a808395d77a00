theorem vX5_in {G : zG} {M : zM} {x a b : Int} (hx : -2147483648 ≤ x ∧ x < 2147483648) (ha : -2147483648 ≤ a ∧ a < 2147483648) (hb : -2147483648 ≤ b ∧ b < 2147483648) : zCall G yX5_in YX5_in [.inl x, .inl a, .inl b] M (fun v M' => M = M' ∧ ∃ zb : Int, v = some (.inl zb) ∧ ((zb = 1 ∧ (a ≤ x ∧ x ≤ b)) ∨ (zb = 0 ∧ ¬ (a ≤ x ∧ x ≤ b)))) := by
  refine zEnter (by decide +kernel) rfl (Nat.le_of_ble_eq_true rfl) ?_
  refine z_iload_n dX5_in_0 rfl ?_
  refine z_iload_n dX5_in_1 rfl ?_
  refine z_icmp_lt (tgt := 14) dX5_in_2 (by decide) (by omega) (by omega) (fun c2 => ?_) (fun c2 => ?_)
  · refine z_iconst dX5_in_14 ?_
    refine z_zret dX5_in_15 rfl (by omega) ?_
    exact ⟨rfl, _, rfl, by omega⟩
  · refine z_iload_n dX5_in_5 rfl ?_
    refine z_iload_n dX5_in_6 rfl ?_
    refine z_icmp_gt (tgt := 14) dX5_in_7 (by decide) (by omega) (by omega) (fun c7 => ?_) (fun c7 => ?_)
    · refine z_iconst dX5_in_14 ?_
      refine z_zret dX5_in_15 rfl (by omega) ?_
      exact ⟨rfl, _, rfl, by omega⟩
    · refine z_iconst dX5_in_10 ?_
      refine z_goto (tgt := 15) dX5_in_11 (by decide) ?_
      refine z_zret dX5_in_15 rfl (by omega) ?_
      exact ⟨rfl, _, rfl, by omega⟩

theorem vX5_isLane {G : zG} {M : zM} {x : Int} (hx : -2147483648 ≤ x ∧ x < 2147483648) : zCall G yX5_isLane YX5_isLane [.inl x] M (fun v M' => M = M' ∧ ∃ zb : Int, v = some (.inl zb) ∧ ((zb = 1 ∧ (0 ≤ x ∧ x ≤ 5)) ∨ (zb = 0 ∧ ¬ (0 ≤ x ∧ x ≤ 5)))) := by
  refine zEnter (by decide +kernel) rfl (Nat.le_of_ble_eq_true rfl) ?_
  refine z_iload_n dX5_isLane_0 rfl ?_
  refine z_iconst dX5_isLane_1 ?_
  refine z_iconst dX5_isLane_2 ?_
  refine z_callS mX5_in (vX5_in hx (by omega) (by omega)) rfl dX5_isLane_3 kX5_32 (by decide) rfl (by show _ ≤ 8; simp) (fun v3 M3 q3 => ?_)
  obtain ⟨rfl, b3, rfl, h3⟩ := q3
  try simp only [zpush]
  refine z_zret dX5_isLane_6 rfl (by omega) ?_
  exact ⟨rfl, _, rfl, by omega⟩

theorem vX5_isCell {G : zG} {M : zM} {x y : Int} (hx : -2147483648 ≤ x ∧ x < 2147483648) (hy : -2147483648 ≤ y ∧ y < 2147483648) : zCall G yX5_isCell YX5_isCell [.inl x, .inl y] M (fun v M' => M = M' ∧ ∃ zb : Int, v = some (.inl zb) ∧ ((zb = 1 ∧ ((0 ≤ x ∧ x ≤ 5) ∧ (0 ≤ y ∧ y ≤ 19))) ∨ (zb = 0 ∧ ¬ ((0 ≤ x ∧ x ≤ 5) ∧ (0 ≤ y ∧ y ≤ 19))))) := by
  refine zEnter (by decide +kernel) rfl (Nat.le_of_ble_eq_true rfl) ?_
  refine z_iload_n dX5_isCell_0 rfl ?_
  refine z_callS mX5_isLane (vX5_isLane hx) rfl dX5_isCell_1 kX5_36 (by decide) rfl (by show _ ≤ 8; simp) (fun v1 M1 q1 => ?_)
  obtain ⟨rfl, b1, rfl, h1⟩ := q1
  try simp only [zpush]
  refine z_if_eq (tgt := 21) dX5_isCell_4 (by decide) (by omega) (fun c4 => ?_) (fun c4 => ?_)
  · refine z_iconst dX5_isCell_21 ?_
    refine z_zret dX5_isCell_22 rfl (by omega) ?_
    exact ⟨rfl, _, rfl, by omega⟩
  · refine z_iload_n dX5_isCell_7 rfl ?_
    refine z_iconst dX5_isCell_8 ?_
    refine z_bipush dX5_isCell_9 (by decide) ?_
    refine z_callS mX5_in (vX5_in hy (by omega) (by omega)) rfl dX5_isCell_11 kX5_32 (by decide) rfl (by show _ ≤ 8; simp) (fun v11 M11 q11 => ?_)
    obtain ⟨rfl, b11, rfl, h11⟩ := q11
    try simp only [zpush]
    refine z_if_eq (tgt := 21) dX5_isCell_14 (by decide) (by omega) (fun c14 => ?_) (fun c14 => ?_)
    · refine z_iconst dX5_isCell_21 ?_
      refine z_zret dX5_isCell_22 rfl (by omega) ?_
      exact ⟨rfl, _, rfl, by omega⟩
    · refine z_iconst dX5_isCell_17 ?_
      refine z_goto (tgt := 22) dX5_isCell_18 (by decide) ?_
      refine z_zret dX5_isCell_22 rfl (by omega) ?_
      exact ⟨rfl, _, rfl, by omega⟩

theorem vX5_isSnail {G : zG} {M : zM} {σ : zS} {x : Int} (hx : -2147483648 ≤ x ∧ x < 2147483648) (hI : zI σ) : zCall G yX5_isSnail YX5_isSnail [.inr (some 187), .inl x] (zt M σ) (fun v M' => zt M σ = M' ∧ ∃ zb : Int, v = some (.inl zb) ∧ ((zb = 1 ∧ (0 ≤ x ∧ x < σ 535)) ∨ (zb = 0 ∧ ¬ (0 ≤ x ∧ x < σ 535)))) := by
  refine zEnter (by decide +kernel) rfl (Nat.le_of_ble_eq_true rfl) ?_
  have hm := hI.1.2.2.2.2
  refine z_iload_n dX5_isSnail_0 rfl ?_
  refine z_iconst dX5_isSnail_1 ?_
  refine z_aload_n dX5_isSnail_2 rfl ?_
  refine z_getR (b := 188) dX5_isSnail_3 fX5_7 (by decide) zsh187 rfl rfl ?_
  refine z_sipush dX5_isSnail_6 (by decide) ?_
  refine z_sload dX5_isSnail_9 (by omega) ?_
  refine z_iconst dX5_isSnail_10 ?_
  refine z_isub dX5_isSnail_11 ?_
  refine z_callS mX5_in (vX5_in hx (by omega) (by omega)) rfl dX5_isSnail_12 kX5_32 (by decide) rfl (by show _ ≤ 8; simp) (fun v12 M12 q12 => ?_)
  obtain ⟨rfl, b12, rfl, h12⟩ := q12
  try simp only [zpush]
  refine z_zret dX5_isSnail_15 rfl (by omega) ?_
  exact ⟨rfl, _, rfl, by omega⟩

theorem vX5_of {G : zG} {M : zM} {k w : Int}  : zCall G yX5_of YX5_of [.inl k, .inl w] M (fun v M' => M = M' ∧ v = some (.inl (360 + 10 * k + w))) := by
  refine zEnter (by decide +kernel) rfl (Nat.le_of_ble_eq_true rfl) ?_
  refine z_sipush dX5_of_0 (by decide) ?_
  refine z_bipush dX5_of_3 (by decide) ?_
  refine z_iload_n dX5_of_5 rfl ?_
  refine z_imul dX5_of_6 ?_
  refine z_iadd dX5_of_7 ?_
  refine z_iload_n dX5_of_8 rfl ?_
  refine z_iadd dX5_of_9 ?_
  refine z_iret dX5_of_10 rfl ?_
  exact ⟨rfl, rfl⟩

theorem vX5_at {G : zG} {M : zM} {x y : Int}  : zCall G yX5_at YX5_at [.inl x, .inl y] M (fun v M' => M = M' ∧ v = some (.inl (6 * y + x))) := by
  refine zEnter (by decide +kernel) rfl (Nat.le_of_ble_eq_true rfl) ?_
  refine z_bipush dX5_at_0 (by decide) ?_
  refine z_iload_n dX5_at_2 rfl ?_
  refine z_imul dX5_at_3 ?_
  refine z_iload_n dX5_at_4 rfl ?_
  refine z_iadd dX5_at_5 ?_
  refine z_iret dX5_at_6 rfl ?_
  exact ⟨rfl, rfl⟩

theorem vX5_creeps {G : zG} {M : zM} {σ : zS} {k : Int} (hk : 0 ≤ k ∧ k < 9) (hI : zI σ) : zCall G yX5_creeps YX5_creeps [.inr (some 187), .inl k] (zt M σ) (fun v M' => zt M σ = M' ∧ ∃ zb : Int, v = some (.inl zb) ∧ ((zb = 1 ∧ (σ (360 + 10 * k + 3) = 0)) ∨ (zb = 0 ∧ ¬ (σ (360 + 10 * k + 3) = 0)))) := by
  refine zEnter (by decide +kernel) rfl (Nat.le_of_ble_eq_true rfl) ?_
  have hk9 := hI.2.2 k hk.1 hk.2
  unfold zIk at hk9
  refine z_aload_n dX5_creeps_0 rfl ?_
  refine z_getR (b := 188) dX5_creeps_1 fX5_7 (by decide) zsh187 rfl rfl ?_
  refine z_iload_n dX5_creeps_4 rfl ?_
  refine z_iconst dX5_creeps_5 ?_
  refine z_callS mX5_of vX5_of rfl dX5_creeps_6 kX5_40 (by decide) rfl (by show _ ≤ 8; simp) (fun v6 M6 q6 => ?_)
  obtain ⟨rfl, rfl⟩ := q6
  try simp only [zpush]
  refine z_sload dX5_creeps_9 (by omega) ?_
  refine z_if_ne (tgt := 17) dX5_creeps_10 (by decide) (by omega) (fun c10 => ?_) (fun c10 => ?_)
  · refine z_iconst dX5_creeps_17 ?_
    refine z_zret dX5_creeps_18 rfl (by omega) ?_
    exact ⟨rfl, _, rfl, by omega⟩
  · refine z_iconst dX5_creeps_13 ?_
    refine z_goto (tgt := 18) dX5_creeps_14 (by decide) ?_
    refine z_zret dX5_creeps_18 rfl (by omega) ?_
    exact ⟨rfl, _, rfl, by omega⟩

theorem vX5_snailOn {G : zG} {M : zM} {σ : zS} {lane row : Int} (hlane : -2147483648 ≤ lane ∧ lane < 2147483648) (hrow : -2147483648 ≤ row ∧ row < 2147483648) (hI : zI σ) : zCall G yX5_snailOn YX5_snailOn [.inr (some 187), .inl lane, .inl row] (zt M σ) (fun v M' => zt M σ = M' ∧ v = some (.inl (sOn σ lane row))) := by
  refine zEnter (by decide +kernel) rfl (Nat.le_of_ble_eq_true rfl) ?_
  have hs9 := hI.1
  unfold zIs at hs9
  refine z_iconst dX5_snailOn_0 ?_
  refine z_istore_n dX5_snailOn_1 (by decide) ?_
  have L : ∀ (n : Nat) (k : Int), (0 ≤ k ∧ k ≤ σ 535) → k + n = σ 535 + 1 → zfind (sOnP σ lane row) k (σ 535) = sOn σ lane row → zW G YX5_snailOn (fun v M' => zt M σ = M' ∧ v = some (.inl (sOn σ lane row))) 2 [(3, .inl k), (0, .inr (some 187)), (1, .inl lane), (2, .inl row)] [] (zt M σ) := by
    intro n
    induction n with
    | zero => intro k h0 hkn he; exfalso; omega
    | succ n ih =>
      intro k h0 hkn he
      refine z_iload_n dX5_snailOn_2 rfl ?_
      refine z_aload_n dX5_snailOn_3 rfl ?_
      refine z_getR (b := 188) dX5_snailOn_4 fX5_7 (by decide) zsh187 rfl rfl ?_
      refine z_sipush dX5_snailOn_7 (by decide) ?_
      refine z_sload dX5_snailOn_10 (by omega) ?_
      refine z_icmp_ge (tgt := 58) dX5_snailOn_11 (by decide) (by omega) (by omega) (fun c11 => ?_) (fun c11 => ?_)
      · refine z_bipush dX5_snailOn_58 (by decide) ?_
        refine z_iret dX5_snailOn_60 rfl ?_
        rw [zfind_end (by omega)] at he
        exact ⟨rfl, by rw [he]⟩
      · have hk9 := hI.2.2 k (by omega) (by omega)
        unfold zIk at hk9
        refine z_aload_n dX5_snailOn_14 rfl ?_
        refine z_iload_n dX5_snailOn_15 rfl ?_
        refine z_callV mX5_creeps (vX5_creeps (by omega) hI) rfl dX5_snailOn_16 kX5_48 (by decide) rfl (by show _ ≤ 8; simp) (by decide) zsh187 (by decide) rfl (fun v16 M16 q16 => ?_)
        obtain ⟨rfl, b16, rfl, h16⟩ := q16
        try simp only [zpush]
        refine z_if_eq (tgt := 52) dX5_snailOn_19 (by decide) (by omega) (fun c19 => ?_) (fun c19 => ?_)
        · refine z_iinc dX5_snailOn_52 rfl (by decide) ?_
          refine z_goto (tgt := 2) dX5_snailOn_55 (by decide) ?_
          rw [zfind_step (by omega), if_neg (sOnP_f (by omega))] at he
          exact zsub' (ih (k + 1) (by omega) (by omega) he) ⟨rfl, rfl, rfl, rfl, trivial⟩
        · refine z_aload_n dX5_snailOn_22 rfl ?_
          refine z_getR (b := 188) dX5_snailOn_23 fX5_7 (by decide) zsh187 rfl rfl ?_
          refine z_iload_n dX5_snailOn_26 rfl ?_
          refine z_iconst dX5_snailOn_27 ?_
          refine z_callS mX5_of vX5_of rfl dX5_snailOn_28 kX5_40 (by decide) rfl (by show _ ≤ 8; simp) (fun v28 M28 q28 => ?_)
          obtain ⟨rfl, rfl⟩ := q28
          try simp only [zpush]
          refine z_sload dX5_snailOn_31 (by omega) ?_
          refine z_iload_n dX5_snailOn_32 rfl ?_
          refine z_icmp_ne (tgt := 52) dX5_snailOn_33 (by decide) (by omega) (by omega) (fun c33 => ?_) (fun c33 => ?_)
          · refine z_iinc dX5_snailOn_52 rfl (by decide) ?_
            refine z_goto (tgt := 2) dX5_snailOn_55 (by decide) ?_
            rw [zfind_step (by omega), if_neg (sOnP_f (by omega))] at he
            exact zsub' (ih (k + 1) (by omega) (by omega) he) ⟨rfl, rfl, rfl, rfl, trivial⟩
          · refine z_aload_n dX5_snailOn_36 rfl ?_
            refine z_getR (b := 188) dX5_snailOn_37 fX5_7 (by decide) zsh187 rfl rfl ?_
            refine z_iload_n dX5_snailOn_40 rfl ?_
            refine z_iconst dX5_snailOn_41 ?_
            refine z_callS mX5_of vX5_of rfl dX5_snailOn_42 kX5_40 (by decide) rfl (by show _ ≤ 8; simp) (fun v42 M42 q42 => ?_)
            obtain ⟨rfl, rfl⟩ := q42
            try simp only [zpush]
            refine z_sload dX5_snailOn_45 (by omega) ?_
            refine z_iload_n dX5_snailOn_46 rfl ?_
            refine z_icmp_ne (tgt := 52) dX5_snailOn_47 (by decide) (by omega) (by omega) (fun c47 => ?_) (fun c47 => ?_)
            · refine z_iinc dX5_snailOn_52 rfl (by decide) ?_
              refine z_goto (tgt := 2) dX5_snailOn_55 (by decide) ?_
              rw [zfind_step (by omega), if_neg (sOnP_f (by omega))] at he
              exact zsub' (ih (k + 1) (by omega) (by omega) he) ⟨rfl, rfl, rfl, rfl, trivial⟩
            · refine z_iload_n dX5_snailOn_50 rfl ?_
              refine z_iret dX5_snailOn_51 rfl ?_
              rw [zfind_step (by omega), if_pos (sOnP_t (by omega))] at he
              exact ⟨rfl, by rw [he]⟩
  exact zsub' (L (σ 535 + 1).toNat 0 (by omega) (by omega) rfl) ⟨rfl, rfl, rfl, rfl, trivial⟩

theorem vX5_barSnail {G : zG} {M : zM} {σ : zS} {lane slime : Int} (hlane : -2147483648 ≤ lane ∧ lane < 2147483648) (hslime : -2147483648 ≤ slime ∧ slime < 2147483648) (hI : zI σ) : zCall G yX5_barSnail YX5_barSnail [.inr (some 187), .inl lane, .inl slime] (zt M σ) (fun v M' => zt M σ = M' ∧ v = some (.inl (sBarS σ lane slime))) := by
  refine zEnter (by decide +kernel) rfl (Nat.le_of_ble_eq_true rfl) ?_
  have hs9 := hI.1
  unfold zIs at hs9
  refine z_iload_n dX5_barSnail_0 rfl ?_
  refine z_callS mX5_isLane (vX5_isLane (by omega)) rfl dX5_barSnail_1 kX5_36 (by decide) rfl (by show _ ≤ 8; simp) (fun v1 M1 q1 => ?_)
  obtain ⟨rfl, b1, rfl, h1⟩ := q1
  try simp only [zpush]
  refine z_if_ne (tgt := 11) dX5_barSnail_4 (by decide) (by omega) (fun c4 => ?_) (fun c4 => ?_)
  · refine z_iload_n dX5_barSnail_11 rfl ?_
    refine z_iconst dX5_barSnail_12 ?_
    refine z_bipush dX5_barSnail_13 (by decide) ?_
    refine z_callS mX5_in (vX5_in (by omega) (by omega) (by omega)) rfl dX5_barSnail_15 kX5_32 (by decide) rfl (by show _ ≤ 8; simp) (fun v15 M15 q15 => ?_)
    obtain ⟨rfl, b15, rfl, h15⟩ := q15
    try simp only [zpush]
    refine z_if_ne (tgt := 26) dX5_barSnail_18 (by decide) (by omega) (fun c18 => ?_) (fun c18 => ?_)
    · refine z_aload_n dX5_barSnail_26 rfl ?_
      refine z_iload_n dX5_barSnail_27 rfl ?_
      refine z_iconst dX5_barSnail_28 ?_
      refine z_callV mX5_snailOn (vX5_snailOn (by omega) (by omega) hI) rfl dX5_barSnail_29 kX5_51 (by decide) rfl (by show _ ≤ 8; simp) (by decide) zsh187 (by decide) rfl (fun v29 M29 q29 => ?_)
      obtain ⟨rfl, rfl⟩ := q29
      try simp only [zpush]
      have hr := sOn_r hI lane 0
      refine z_bipush dX5_barSnail_32 (by decide) ?_
      refine z_icmp_eq (tgt := 42) dX5_barSnail_34 (by decide) (by omega) (by omega) (fun c34 => ?_) (fun c34 => ?_)
      · refine z_aload_n dX5_barSnail_42 rfl ?_
        refine z_getR (b := 188) dX5_barSnail_43 fX5_7 (by decide) zsh187 rfl rfl ?_
        refine z_sipush dX5_barSnail_46 (by decide) ?_
        refine z_sload dX5_barSnail_49 (by omega) ?_
        refine z_bipush dX5_barSnail_50 (by decide) ?_
        refine z_icmp_ne (tgt := 60) dX5_barSnail_52 (by decide) (by omega) (by omega) (fun c52 => ?_) (fun c52 => ?_)
        · refine z_iconst dX5_barSnail_60 ?_
          refine z_iret dX5_barSnail_61 rfl ?_
          refine ⟨rfl, ?_⟩
          unfold sBarS
          congr 2
          repeat' split
          all_goals first | rfl | omega
        · refine z_bipush dX5_barSnail_55 (by decide) ?_
          refine z_goto (tgt := 61) dX5_barSnail_57 (by decide) ?_
          refine z_iret dX5_barSnail_61 rfl ?_
          refine ⟨rfl, ?_⟩
          unfold sBarS
          congr 2
          repeat' split
          all_goals first | rfl | omega
      · refine z_bipush dX5_barSnail_37 (by decide) ?_
        refine z_goto (tgt := 61) dX5_barSnail_39 (by decide) ?_
        refine z_iret dX5_barSnail_61 rfl ?_
        refine ⟨rfl, ?_⟩
        unfold sBarS
        congr 2
        repeat' split
        all_goals first | rfl | omega
    · refine z_bipush dX5_barSnail_21 (by decide) ?_
      refine z_goto (tgt := 61) dX5_barSnail_23 (by decide) ?_
      refine z_iret dX5_barSnail_61 rfl ?_
      refine ⟨rfl, ?_⟩
      unfold sBarS
      congr 2
      repeat' split
      all_goals first | rfl | omega
  · refine z_iconst dX5_barSnail_7 ?_
    refine z_goto (tgt := 61) dX5_barSnail_8 (by decide) ?_
    refine z_iret dX5_barSnail_61 rfl ?_
    refine ⟨rfl, ?_⟩
    unfold sBarS
    congr 2
    repeat' split
    all_goals first | rfl | omega

theorem vX5_most {G : zG} {M : zM} {w : Int} (hw : -2147483648 ≤ w ∧ w < 2147483648) : zCall G yX5_most YX5_most [.inl w] M (fun v M' => M = M' ∧ v = some (.inl (sMost w))) := by
  refine zEnter (by decide +kernel) rfl (Nat.le_of_ble_eq_true rfl) ?_
  refine z_iload_n dX5_most_0 rfl ?_
  refine z_if_ne (tgt := 9) dX5_most_1 (by decide) (by omega) (fun c1 => ?_) (fun c1 => ?_)
  · refine z_iload_n dX5_most_9 rfl ?_
    refine z_iconst dX5_most_10 ?_
    refine z_icmp_ne (tgt := 19) dX5_most_11 (by decide) (by omega) (by omega) (fun c11 => ?_) (fun c11 => ?_)
    · refine z_iload_n dX5_most_19 rfl ?_
      refine z_iconst dX5_most_20 ?_
      refine z_icmp_ne (tgt := 29) dX5_most_21 (by decide) (by omega) (by omega) (fun c21 => ?_) (fun c21 => ?_)
      · refine z_bipush dX5_most_29 (by decide) ?_
        refine z_iret dX5_most_31 rfl ?_
        refine ⟨rfl, ?_⟩
        unfold sMost
        congr 2
        repeat' split
        all_goals first | rfl | omega
      · refine z_bipush dX5_most_24 (by decide) ?_
        refine z_goto (tgt := 31) dX5_most_26 (by decide) ?_
        refine z_iret dX5_most_31 rfl ?_
        refine ⟨rfl, ?_⟩
        unfold sMost
        congr 2
        repeat' split
        all_goals first | rfl | omega
    · refine z_bipush dX5_most_14 (by decide) ?_
      refine z_goto (tgt := 31) dX5_most_16 (by decide) ?_
      refine z_iret dX5_most_31 rfl ?_
      refine ⟨rfl, ?_⟩
      unfold sMost
      congr 2
      repeat' split
      all_goals first | rfl | omega
  · refine z_bipush dX5_most_4 (by decide) ?_
    refine z_goto (tgt := 31) dX5_most_6 (by decide) ?_
    refine z_iret dX5_most_31 rfl ?_
    refine ⟨rfl, ?_⟩
    unfold sMost
    congr 2
    repeat' split
    all_goals first | rfl | omega

theorem vX5_laneOf {G : zG} {M : zM} {lane step : Int} (hstep : -2147483648 ≤ step ∧ step < 2147483648) : zCall G yX5_laneOf YX5_laneOf [.inl lane, .inl step] M (fun v M' => M = M' ∧ v = some (.inl (sLn lane step))) := by
  refine zEnter (by decide +kernel) rfl (Nat.le_of_ble_eq_true rfl) ?_
  refine z_iload_n dX5_laneOf_0 rfl ?_
  refine z_if_ne (tgt := 8) dX5_laneOf_1 (by decide) (by omega) (fun c1 => ?_) (fun c1 => ?_)
  · refine z_iload_n dX5_laneOf_8 rfl ?_
    refine z_iconst dX5_laneOf_9 ?_
    refine z_icmp_ne (tgt := 19) dX5_laneOf_10 (by decide) (by omega) (by omega) (fun c10 => ?_) (fun c10 => ?_)
    · refine z_iload_n dX5_laneOf_19 rfl ?_
      refine z_iconst dX5_laneOf_20 ?_
      refine z_iadd dX5_laneOf_21 ?_
      refine z_iret dX5_laneOf_22 rfl ?_
      refine ⟨rfl, ?_⟩
      unfold sLn
      congr 2
      repeat' split
      all_goals first | rfl | omega
    · refine z_iload_n dX5_laneOf_13 rfl ?_
      refine z_iconst dX5_laneOf_14 ?_
      refine z_isub dX5_laneOf_15 ?_
      refine z_goto (tgt := 22) dX5_laneOf_16 (by decide) ?_
      refine z_iret dX5_laneOf_22 rfl ?_
      refine ⟨rfl, ?_⟩
      unfold sLn
      congr 2
      repeat' split
      all_goals first | rfl | omega
  · refine z_iload_n dX5_laneOf_4 rfl ?_
    refine z_goto (tgt := 22) dX5_laneOf_5 (by decide) ?_
    refine z_iret dX5_laneOf_22 rfl ?_
    refine ⟨rfl, ?_⟩
    unfold sLn
    congr 2
    repeat' split
    all_goals first | rfl | omega

theorem vX5_why {G : zG} {M : zM} {σ : zS} {k c : Int} (hI : zI σ) (hk : 0 ≤ k ∧ k < 9) (hc : 0 ≤ c ∧ c < 120) : zCall G yX5_why YX5_why [.inr (some 187), .inl k, .inl c] (zt M σ) (fun v M' => zt M σ = M' ∧ v = some (.inl (sWhy σ k c))) := by
  refine zEnter (by decide +kernel) rfl (Nat.le_of_ble_eq_true rfl) ?_
  have hk9 := hI.2.2 k hk.1 hk.2
  unfold zIk at hk9
  have hs9 := hI.1
  unfold zIs at hs9
  have hc9 := hI.2.1 c hc.1 hc.2
  unfold zIc at hc9
  refine z_aload_n dX5_why_0 rfl ?_
  refine z_getR (b := 188) dX5_why_1 fX5_7 (by decide) zsh187 rfl rfl ?_
  refine z_bipush dX5_why_4 (by decide) ?_
  refine z_iload_n dX5_why_6 rfl ?_
  refine z_iadd dX5_why_7 ?_
  refine z_sload dX5_why_8 (by omega) ?_
  refine z_iconst dX5_why_9 ?_
  refine z_isub dX5_why_10 ?_
  refine z_istore_n dX5_why_11 (by decide) ?_
  refine z_iload_n dX5_why_12 rfl ?_
  refine z_if_ge (tgt := 20) dX5_why_13 (by decide) (by omega) (fun c13 => ?_) (fun c13 => ?_)
  · refine z_iload_n dX5_why_20 rfl ?_
    refine z_iload_n dX5_why_21 rfl ?_
    refine z_icmp_ne (tgt := 29) dX5_why_22 (by decide) (by omega) (by omega) (fun c22 => ?_) (fun c22 => ?_)
    · refine z_aload_n dX5_why_29 rfl ?_
      refine z_getR (b := 188) dX5_why_30 fX5_7 (by decide) zsh187 rfl rfl ?_
      refine z_iload_n dX5_why_33 rfl ?_
      refine z_bipush dX5_why_34 (by decide) ?_
      refine z_callS mX5_of vX5_of rfl dX5_why_36 kX5_40 (by decide) rfl (by show _ ≤ 8; simp) (fun v36 M36 q36 => ?_)
      obtain ⟨rfl, rfl⟩ := q36
      try simp only [zpush]
      refine z_sload dX5_why_39 (by omega) ?_
      refine z_iload_n dX5_why_40 rfl ?_
      refine z_iconst dX5_why_41 ?_
      refine z_iadd dX5_why_42 ?_
      refine z_icmp_ne (tgt := 72) dX5_why_43 (by decide) (by omega) (by omega) (fun c43 => ?_) (fun c43 => ?_)
      · refine z_iconst dX5_why_72 ?_
        refine z_iret dX5_why_73 rfl ?_
        refine ⟨rfl, ?_⟩
        unfold sWhy
        congr 2
        repeat' split
        all_goals first | rfl | omega
      · refine z_aload_n dX5_why_46 rfl ?_
        refine z_getR (b := 188) dX5_why_47 fX5_7 (by decide) zsh187 rfl rfl ?_
        refine z_iload_n dX5_why_50 rfl ?_
        refine z_bipush dX5_why_51 (by decide) ?_
        refine z_callS mX5_of vX5_of rfl dX5_why_53 kX5_40 (by decide) rfl (by show _ ≤ 8; simp) (fun v53 M53 q53 => ?_)
        obtain ⟨rfl, rfl⟩ := q53
        try simp only [zpush]
        refine z_sload dX5_why_56 (by omega) ?_
        refine z_aload_n dX5_why_57 rfl ?_
        refine z_getR (b := 188) dX5_why_58 fX5_7 (by decide) zsh187 rfl rfl ?_
        refine z_sipush dX5_why_61 (by decide) ?_
        refine z_sload dX5_why_64 (by omega) ?_
        refine z_icmp_lt (tgt := 72) dX5_why_65 (by decide) (by omega) (by omega) (fun c65 => ?_) (fun c65 => ?_)
        · refine z_iconst dX5_why_72 ?_
          refine z_iret dX5_why_73 rfl ?_
          refine ⟨rfl, ?_⟩
          unfold sWhy
          congr 2
          repeat' split
          all_goals first | rfl | omega
        · refine z_iconst dX5_why_68 ?_
          refine z_goto (tgt := 73) dX5_why_69 (by decide) ?_
          refine z_iret dX5_why_73 rfl ?_
          refine ⟨rfl, ?_⟩
          unfold sWhy
          congr 2
          repeat' split
          all_goals first | rfl | omega
    · refine z_iconst dX5_why_25 ?_
      refine z_goto (tgt := 73) dX5_why_26 (by decide) ?_
      refine z_iret dX5_why_73 rfl ?_
      refine ⟨rfl, ?_⟩
      unfold sWhy
      congr 2
      repeat' split
      all_goals first | rfl | omega
  · refine z_iconst dX5_why_16 ?_
    refine z_goto (tgt := 73) dX5_why_17 (by decide) ?_
    refine z_iret dX5_why_73 rfl ?_
    refine ⟨rfl, ?_⟩
    unfold sWhy
    congr 2
    repeat' split
    all_goals first | rfl | omega

theorem vX5_price {G : zG} {M : zM} {σ : zS} {k step : Int} (hI : zI σ) (hk : 0 ≤ k ∧ k < 9) (hs : 0 ≤ step ∧ step ≤ 4) : zCall G yX5_price YX5_price [.inr (some 187), .inl k, .inl step] (zt M σ) (fun v M' => zt M σ = M' ∧ v = some (.inl (sPr σ k step))) := by
  refine zEnter (by decide +kernel) rfl (Nat.le_of_ble_eq_true rfl) ?_
  have hk9 := hI.2.2 k hk.1 hk.2
  unfold zIk at hk9
  have hs9 := hI.1
  unfold zIs at hs9
  refine z_aload_n dX5_price_0 rfl ?_
  refine z_getR (b := 188) dX5_price_1 fX5_7 (by decide) zsh187 rfl rfl ?_
  refine z_iload_n dX5_price_4 rfl ?_
  refine z_iconst dX5_price_5 ?_
  refine z_callS mX5_of vX5_of rfl dX5_price_6 kX5_40 (by decide) rfl (by show _ ≤ 8; simp) (fun v6 M6 q6 => ?_)
  obtain ⟨rfl, rfl⟩ := q6
  try simp only [zpush]
  refine z_sload dX5_price_9 (by omega) ?_
  refine z_iload_n dX5_price_10 rfl ?_
  refine z_callS mX5_laneOf (vX5_laneOf (by omega)) rfl dX5_price_11 kX5_87 (by decide) rfl (by show _ ≤ 8; simp) (fun v11 M11 q11 => ?_)
  obtain ⟨rfl, rfl⟩ := q11
  try simp only [zpush]
  generalize hx : sLn (σ (360 + 10 * k + 0)) step = x
  have hxr : -1 ≤ x ∧ x ≤ 6 := by rw [← hx]; exact sLn_r (by omega) step
  refine z_istore_n dX5_price_14 (by decide) ?_
  refine z_aload_n dX5_price_15 rfl ?_
  refine z_getR (b := 188) dX5_price_16 fX5_7 (by decide) zsh187 rfl rfl ?_
  refine z_iload_n dX5_price_19 rfl ?_
  refine z_iconst dX5_price_20 ?_
  refine z_callS mX5_of vX5_of rfl dX5_price_21 kX5_40 (by decide) rfl (by show _ ≤ 8; simp) (fun v21 M21 q21 => ?_)
  obtain ⟨rfl, rfl⟩ := q21
  try simp only [zpush]
  refine z_sload dX5_price_24 (by omega) ?_
  refine z_iconst dX5_price_25 ?_
  refine z_iadd dX5_price_26 ?_
  refine z_istore dX5_price_27 (by decide) ?_
  refine z_iload_n dX5_price_29 rfl ?_
  refine z_iload dX5_price_30 rfl ?_
  refine z_callS mX5_isCell (vX5_isCell (by omega) (by omega)) rfl dX5_price_32 kX5_66 (by decide) rfl (by show _ ≤ 8; simp) (fun v32 M32 q32 => ?_)
  obtain ⟨rfl, b32, rfl, h32⟩ := q32
  try simp only [zpush]
  refine z_if_eq (tgt := 50) dX5_price_35 (by decide) (by omega) (fun c35 => ?_) (fun c35 => ?_)
  · refine z_bipush dX5_price_50 (by decide) ?_
    refine z_iret dX5_price_52 rfl ?_
    refine ⟨rfl, ?_⟩
    unfold sPr
    rw [hx]
    congr 2
    repeat' split
    all_goals first | rfl | omega
  · refine z_aload_n dX5_price_38 rfl ?_
    refine z_iload_n dX5_price_39 rfl ?_
    refine z_iload dX5_price_40 rfl ?_
    refine z_callV mX5_snailOn (vX5_snailOn (by omega) (by omega) hI) rfl dX5_price_42 kX5_51 (by decide) rfl (by show _ ≤ 8; simp) (by decide) zsh187 (by decide) rfl (fun v42 M42 q42 => ?_)
    obtain ⟨rfl, rfl⟩ := q42
    try simp only [zpush]
    have hr := sOn_r hI x (σ (360 + 10 * k + 1) + 1)
    refine z_bipush dX5_price_45 (by decide) ?_
    refine z_icmp_eq (tgt := 53) dX5_price_47 (by decide) (by omega) (by omega) (fun c47 => ?_) (fun c47 => ?_)
    · refine z_aload_n dX5_price_53 rfl ?_
      refine z_iload_n dX5_price_54 rfl ?_
      refine z_iload_n dX5_price_55 rfl ?_
      refine z_iload dX5_price_56 rfl ?_
      refine z_callS mX5_at vX5_at rfl dX5_price_58 kX5_70 (by decide) rfl (by show _ ≤ 8; simp) (fun v58 M58 q58 => ?_)
      obtain ⟨rfl, rfl⟩ := q58
      try simp only [zpush]
      refine z_callV mX5_why (vX5_why hI hk (by omega)) rfl dX5_price_61 kX5_90 (by decide) rfl (by show _ ≤ 8; simp) (by decide) zsh187 (by decide) rfl (fun v61 M61 q61 => ?_)
      obtain ⟨rfl, rfl⟩ := q61
      try simp only [zpush]
      have hw := sWhy_r σ k (6 * (σ (360 + 10 * k + 1) + 1) + x)
      refine z_istore dX5_price_64 (by decide) ?_
      refine z_iload dX5_price_66 rfl ?_
      refine z_if_eq (tgt := 77) dX5_price_68 (by decide) (by omega) (fun c68 => ?_) (fun c68 => ?_)
      · refine z_iconst dX5_price_77 ?_
        refine z_goto (tgt := 96) dX5_price_78 (by decide) ?_
        refine z_iret dX5_price_96 rfl ?_
        refine ⟨rfl, ?_⟩
        unfold sPr
        rw [hx]
        congr 2
        repeat' split
        all_goals first | rfl | omega
      · refine z_iload dX5_price_71 rfl ?_
        refine z_iconst dX5_price_73 ?_
        refine z_icmp_ne (tgt := 81) dX5_price_74 (by decide) (by omega) (by omega) (fun c74 => ?_) (fun c74 => ?_)
        · refine z_iconst dX5_price_81 ?_
          refine z_aload_n dX5_price_82 rfl ?_
          refine z_getR (b := 188) dX5_price_83 fX5_7 (by decide) zsh187 rfl rfl ?_
          refine z_iconst dX5_price_86 ?_
          refine z_iload_n dX5_price_87 rfl ?_
          refine z_iload dX5_price_88 rfl ?_
          refine z_callS mX5_at vX5_at rfl dX5_price_90 kX5_70 (by decide) rfl (by show _ ≤ 8; simp) (fun v90 M90 q90 => ?_)
          obtain ⟨rfl, rfl⟩ := q90
          try simp only [zpush]
          refine z_iadd dX5_price_93 ?_
          rw [Int.zero_add]
          refine z_sload dX5_price_94 (by omega) ?_
          refine z_iadd dX5_price_95 ?_
          refine z_iret dX5_price_96 rfl ?_
          refine ⟨rfl, ?_⟩
          unfold sPr
          rw [hx]
          congr 2
          repeat' split
          all_goals first | rfl | omega
        · refine z_iconst dX5_price_77 ?_
          refine z_goto (tgt := 96) dX5_price_78 (by decide) ?_
          refine z_iret dX5_price_96 rfl ?_
          refine ⟨rfl, ?_⟩
          unfold sPr
          rw [hx]
          congr 2
          repeat' split
          all_goals first | rfl | omega
    · refine z_bipush dX5_price_50 (by decide) ?_
      refine z_iret dX5_price_52 rfl ?_
      refine ⟨rfl, ?_⟩
      unfold sPr
      rw [hx]
      congr 2
      repeat' split
      all_goals first | rfl | omega

theorem vX5_chooses {G : zG} {M : zM} {σ : zS} {k : Int} (hI : zI σ) (hk : 0 ≤ k ∧ k < 9) : zCall G yX5_chooses YX5_chooses [.inr (some 187), .inl k] (zt M σ) (fun v M' => zt M σ = M' ∧ v = some (.inl (sCh σ k))) := by
  refine zEnter (by decide +kernel) rfl (Nat.le_of_ble_eq_true rfl) ?_
  have hk9 := hI.2.2 k hk.1 hk.2
  unfold zIk at hk9
  have hs9 := hI.1
  unfold zIs at hs9
  refine z_iconst dX5_chooses_0 ?_
  refine z_istore_n dX5_chooses_1 (by decide) ?_
  refine z_iconst dX5_chooses_2 ?_
  refine z_istore_n dX5_chooses_3 (by decide) ?_
  have L : ∀ (n : Nat) (i f : Int), (0 ≤ i ∧ i ≤ 3) → i + n = 4 → (0 ≤ f ∧ f ≤ 4) → zfor (sCs σ k) i 3 f = sCb σ k → zW G YX5_chooses (fun v M' => zt M σ = M' ∧ v = some (.inl (sCh σ k))) 4 [(3, .inl i), (2, .inl f), (0, .inr (some 187)), (1, .inl k)] [] (zt M σ) := by
    intro n
    induction n with
    | zero => intro i f hi hin hf he; exfalso; omega
    | succ n ih =>
      intro i f hi hin hf he
      refine z_iload_n dX5_chooses_4 rfl ?_
      refine z_iconst dX5_chooses_5 ?_
      refine z_icmp_ge (tgt := 52) dX5_chooses_6 (by decide) (by omega) (by omega) (fun c6 => ?_) (fun c6 => ?_)
      · rw [zfor_end (by omega)] at he
        have hp := sPr_r hI hk f
        refine z_iload_n dX5_chooses_52 rfl ?_
        refine z_iconst dX5_chooses_53 ?_
        refine z_icmp_ge (tgt := 80) dX5_chooses_54 (by decide) (by omega) (by omega) (fun c54 => ?_) (fun c54 => ?_)
        · refine z_iload_n dX5_chooses_80 rfl ?_
          refine z_iret dX5_chooses_81 rfl ?_
          refine ⟨rfl, ?_⟩
          unfold sCh
          rw [← he]
          congr 2
          repeat' split
          all_goals first | rfl | omega
        · refine z_aload_n dX5_chooses_57 rfl ?_
          refine z_iload_n dX5_chooses_58 rfl ?_
          refine z_iload_n dX5_chooses_59 rfl ?_
          refine z_callV mX5_price (vX5_price hI hk (by omega)) rfl dX5_chooses_60 kX5_93 (by decide) rfl (by show _ ≤ 8; simp) (by decide) zsh187 (by decide) rfl (fun v60 M60 q60 => ?_)
          obtain ⟨rfl, rfl⟩ := q60
          try simp only [zpush]
          refine z_aload_n dX5_chooses_63 rfl ?_
          refine z_getR (b := 188) dX5_chooses_64 fX5_7 (by decide) zsh187 rfl rfl ?_
          refine z_iload_n dX5_chooses_67 rfl ?_
          refine z_iconst dX5_chooses_68 ?_
          refine z_callS mX5_of vX5_of rfl dX5_chooses_69 kX5_40 (by decide) rfl (by show _ ≤ 8; simp) (fun v69 M69 q69 => ?_)
          obtain ⟨rfl, rfl⟩ := q69
          try simp only [zpush]
          refine z_sload dX5_chooses_72 (by omega) ?_
          refine z_icmp_le (tgt := 80) dX5_chooses_73 (by decide) (by omega) (by omega) (fun c73 => ?_) (fun c73 => ?_)
          · refine z_iload_n dX5_chooses_80 rfl ?_
            refine z_iret dX5_chooses_81 rfl ?_
            refine ⟨rfl, ?_⟩
            unfold sCh
            rw [← he]
            congr 2
            repeat' split
            all_goals first | rfl | omega
          · refine z_iconst dX5_chooses_76 ?_
            refine z_goto (tgt := 81) dX5_chooses_77 (by decide) ?_
            refine z_iret dX5_chooses_81 rfl ?_
            refine ⟨rfl, ?_⟩
            unfold sCh
            rw [← he]
            congr 2
            repeat' split
            all_goals first | rfl | omega
      · have hp := sPr_r hI hk i
        have hp2 := sPr_r hI hk f
        rw [zfor_step (by omega)] at he
        refine z_aload_n dX5_chooses_9 rfl ?_
        refine z_iload_n dX5_chooses_10 rfl ?_
        refine z_iload_n dX5_chooses_11 rfl ?_
        refine z_callV mX5_price (vX5_price hI hk (by omega)) rfl dX5_chooses_12 kX5_93 (by decide) rfl (by show _ ≤ 8; simp) (by decide) zsh187 (by decide) rfl (fun v12 M12 q12 => ?_)
        obtain ⟨rfl, rfl⟩ := q12
        try simp only [zpush]
        refine z_istore dX5_chooses_15 (by decide) ?_
        refine z_iload dX5_chooses_17 rfl ?_
        refine z_bipush dX5_chooses_19 (by decide) ?_
        refine z_icmp_eq (tgt := 44) dX5_chooses_21 (by decide) (by omega) (by omega) (fun c21 => ?_) (fun c21 => ?_)
        · refine z_iload_n dX5_chooses_44 rfl ?_
          refine z_istore_n dX5_chooses_45 (by decide) ?_
          refine z_iinc dX5_chooses_46 rfl (by decide) ?_
          refine z_goto (tgt := 4) dX5_chooses_49 (by decide) ?_
          refine zsub' (ih (i + 1) _ (by omega) (by omega) (by omega) ?_) ⟨rfl, rfl, rfl, rfl, trivial⟩
          rw [← he]
          congr 1
          unfold sCs
          split
          all_goals first | rfl | omega
        · refine z_iload_n dX5_chooses_24 rfl ?_
          refine z_iconst dX5_chooses_25 ?_
          refine z_icmp_eq (tgt := 40) dX5_chooses_26 (by decide) (by omega) (by omega) (fun c26 => ?_) (fun c26 => ?_)
          · refine z_iload_n dX5_chooses_40 rfl ?_
            refine z_goto (tgt := 45) dX5_chooses_41 (by decide) ?_
            refine z_istore_n dX5_chooses_45 (by decide) ?_
            refine z_iinc dX5_chooses_46 rfl (by decide) ?_
            refine z_goto (tgt := 4) dX5_chooses_49 (by decide) ?_
            refine zsub' (ih (i + 1) _ (by omega) (by omega) (by omega) ?_) ⟨rfl, rfl, rfl, rfl, trivial⟩
            rw [← he]
            congr 1
            unfold sCs
            split
            all_goals first | rfl | omega
          · refine z_iload dX5_chooses_29 rfl ?_
            refine z_aload_n dX5_chooses_31 rfl ?_
            refine z_iload_n dX5_chooses_32 rfl ?_
            refine z_iload_n dX5_chooses_33 rfl ?_
            refine z_callV mX5_price (vX5_price hI hk (by omega)) rfl dX5_chooses_34 kX5_93 (by decide) rfl (by show _ ≤ 8; simp) (by decide) zsh187 (by decide) rfl (fun v34 M34 q34 => ?_)
            obtain ⟨rfl, rfl⟩ := q34
            try simp only [zpush]
            refine z_icmp_ge (tgt := 44) dX5_chooses_37 (by decide) (by omega) (by omega) (fun c37 => ?_) (fun c37 => ?_)
            · refine z_iload_n dX5_chooses_44 rfl ?_
              refine z_istore_n dX5_chooses_45 (by decide) ?_
              refine z_iinc dX5_chooses_46 rfl (by decide) ?_
              refine z_goto (tgt := 4) dX5_chooses_49 (by decide) ?_
              refine zsub' (ih (i + 1) _ (by omega) (by omega) (by omega) ?_) ⟨rfl, rfl, rfl, rfl, trivial⟩
              rw [← he]
              congr 1
              unfold sCs
              split
              all_goals first | rfl | omega
            · refine z_iload_n dX5_chooses_40 rfl ?_
              refine z_goto (tgt := 45) dX5_chooses_41 (by decide) ?_
              refine z_istore_n dX5_chooses_45 (by decide) ?_
              refine z_iinc dX5_chooses_46 rfl (by decide) ?_
              refine z_goto (tgt := 4) dX5_chooses_49 (by decide) ?_
              refine zsub' (ih (i + 1) _ (by omega) (by omega) (by omega) ?_) ⟨rfl, rfl, rfl, rfl, trivial⟩
              rw [← he]
              congr 1
              unfold sCs
              split
              all_goals first | rfl | omega
  exact zsub' (L 4 0 4 (by omega) (by omega) (by omega) rfl) ⟨rfl, rfl, rfl, rfl, trivial⟩
