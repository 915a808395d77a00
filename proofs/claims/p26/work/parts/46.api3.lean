theorem sCount_o (σ : zS) (a b : Int) {w : Int} (h : w ≠ 13 ∧ w ≠ 14) : sCount σ (-2) (-2) w = sCount σ a b w := by
  simp only [sCount, if_neg h.1, if_neg h.2]
theorem sCount_13 (σ : zS) (a b : Int) : sCount σ a b 13 = a := rfl
theorem sCount_14 (σ : zS) (a b : Int) : sCount σ a b 14 = b := rfl

theorem vX4_snail {G : zG} {M : zM} {σ : zS} {k w : Int} (hk : -2147483648 ≤ k ∧ k < 2147483648) (hw : -2147483648 ≤ w ∧ w < 2147483648)  (hR : zRel M 0 σ) (hI : zI σ) : zCall G yX4_snail YX4_snail [.inr (some 175), .inl k, .inl w] M (fun v M' => M = M' ∧ v = some (.inl (sSnail σ k w))) := by
  refine zEnter (by decide +kernel) rfl (Nat.le_of_ble_eq_true rfl) ?_
  have hs9 := hI.1
  unfold zIs at hs9
  refine z_aload_n dX4_snail_0 rfl ?_
  refine z_getR (b := 0) dX4_snail_1 fX4_12 (by decide) (zsh175) rfl rfl ?_
  refine z_iload_n dX4_snail_4 rfl ?_
  refine z_iload_n dX4_snail_5 rfl ?_
  refine z_callV mX1_tellSnail (vX1_tellSnail zP_0 hR (by omega) (by omega) hI) rfl dX4_snail_6 kX4_119 (by decide) rfl (by show _ ≤ 8; simp) (zP_r0 (zP_0)) (zm_sh_p0 (zP_0)) (by decide) rfl (fun v6 M6 q6 => ?_)
  obtain ⟨rfl, rfl⟩ := q6
  try simp only [zpush]
  refine z_iret dX4_snail_9 rfl ?_
  exact ⟨rfl, rfl⟩

theorem vX4_cell {G : zG} {M : zM} {σ : zS} {lane row w : Int} (hlane : -2147483648 ≤ lane ∧ lane < 2147483648) (hrow : -2147483648 ≤ row ∧ row < 2147483648) (hw : -2147483648 ≤ w ∧ w < 2147483648)  (hR : zRel M 0 σ) (hI : zI σ) : zCall G yX4_cell YX4_cell [.inr (some 175), .inl lane, .inl row, .inl w] M (fun v M' => M = M' ∧ v = some (.inl (sCell σ lane row w))) := by
  refine zEnter (by decide +kernel) rfl (Nat.le_of_ble_eq_true rfl) ?_
  have hs9 := hI.1
  unfold zIs at hs9
  refine z_aload_n dX4_cell_0 rfl ?_
  refine z_getR (b := 0) dX4_cell_1 fX4_12 (by decide) (zsh175) rfl rfl ?_
  refine z_iload_n dX4_cell_4 rfl ?_
  refine z_iload_n dX4_cell_5 rfl ?_
  refine z_iload_n dX4_cell_6 rfl ?_
  refine z_callV mX1_tellCell (vX1_tellCell zP_0 hR (by omega) (by omega) (by omega) hI) rfl dX4_cell_7 kX4_122 (by decide) rfl (by show _ ≤ 8; simp) (zP_r0 (zP_0)) (zm_sh_p0 (zP_0)) (by decide) rfl (fun v7 M7 q7 => ?_)
  obtain ⟨rfl, rfl⟩ := q7
  try simp only [zpush]
  refine z_iret dX4_cell_10 rfl ?_
  exact ⟨rfl, rfl⟩

theorem vX4_owes {G : zG} {M : zM} {σ : zS} {k ow : Int} (hk : -2147483648 ≤ k ∧ k < 2147483648) (how : -2147483648 ≤ ow ∧ ow < 2147483648)  (hR : zRel M 0 σ) (hI : zI σ) : zCall G yX4_owes YX4_owes [.inr (some 175), .inl k, .inl ow] M (fun v M' => M = M' ∧ v = some (.inl (sOwes σ k ow))) := by
  refine zEnter (by decide +kernel) rfl (Nat.le_of_ble_eq_true rfl) ?_
  have hs9 := hI.1
  unfold zIs at hs9
  refine z_aload_n dX4_owes_0 rfl ?_
  refine z_getR (b := 0) dX4_owes_1 fX4_12 (by decide) (zsh175) rfl rfl ?_
  refine z_iload_n dX4_owes_4 rfl ?_
  refine z_iload_n dX4_owes_5 rfl ?_
  refine z_callV mX1_tellOwed (vX1_tellOwed zP_0 hR (by omega) (by omega) hI) rfl dX4_owes_6 kX4_163 (by decide) rfl (by show _ ≤ 8; simp) (zP_r0 (zP_0)) (zm_sh_p0 (zP_0)) (by decide) rfl (fun v6 M6 q6 => ?_)
  obtain ⟨rfl, rfl⟩ := q6
  try simp only [zpush]
  refine z_iret dX4_owes_9 rfl ?_
  exact ⟨rfl, rfl⟩

theorem vX4_leader {G : zG} {M : zM} {σ : zS}   (hR : zRel M 0 σ) (hI : zI σ) : zCall G yX4_leader YX4_leader [.inr (some 175)] M (fun v M' => M = M' ∧ v = some (.inl (sLead σ))) := by
  refine zEnter (by decide +kernel) rfl (Nat.le_of_ble_eq_true rfl) ?_
  have hs9 := hI.1
  unfold zIs at hs9
  refine z_aload_n dX4_leader_0 rfl ?_
  refine z_getR (b := 0) dX4_leader_1 fX4_12 (by decide) (zsh175) rfl rfl ?_
  refine z_callV mX1_findLeader (vX1_findLeader zP_0 hR hI) rfl dX4_leader_4 kX4_160 (by decide) rfl (by show _ ≤ 8; simp) (zP_r0 (zP_0)) (zm_sh_p0 (zP_0)) (by decide) rfl (fun v4 M4 q4 => ?_)
  obtain ⟨rfl, rfl⟩ := q4
  try simp only [zpush]
  refine z_iret dX4_leader_7 rfl ?_
  exact ⟨rfl, rfl⟩

theorem vX4_cost {G : zG} {M : zM} {σ : zS} {k s : Int} (hk : -2147483648 ≤ k ∧ k < 2147483648) (hs : -2147483648 ≤ s ∧ s < 2147483648)  (hR : zRel M 0 σ) (hI : zI σ) : zCall G yX4_cost YX4_cost [.inr (some 175), .inl k, .inl s] M (fun v M' => M = M' ∧ v = some (.inl (sCost σ k s))) := by
  refine zEnter (by decide +kernel) rfl (Nat.le_of_ble_eq_true rfl) ?_
  have hs9 := hI.1
  unfold zIs at hs9
  refine z_aload_n dX4_cost_0 rfl ?_
  refine z_getR (b := 0) dX4_cost_1 fX4_12 (by decide) (zsh175) rfl rfl ?_
  refine z_iload_n dX4_cost_4 rfl ?_
  refine z_callV mX1_knows (vX1_knows zP_0 hR (by omega) hI) rfl dX4_cost_5 kX4_125 (by decide) rfl (by show _ ≤ 8; simp) (zP_r0 (zP_0)) (zm_sh_p0 (zP_0)) (by decide) rfl (fun v5 M5 q5 => ?_)
  obtain ⟨rfl, b5, rfl, h5⟩ := q5
  try simp only [zpush]
  refine z_if_ne (tgt := 13) dX4_cost_8 (by decide) (by omega) (fun c8 => ?_) (fun c8 => ?_)
  · refine z_iload_n dX4_cost_13 rfl ?_
    refine z_if_lt (tgt := 25) dX4_cost_14 (by decide) (by omega) (fun c14 => ?_) (fun c14 => ?_)
    · have h3 : ((zm_st 0).2.length : Int) = 3 := rfl
      refine z_bipush dX4_cost_25 (by decide) ?_
      refine z_iret dX4_cost_27 rfl ?_
      refine ⟨rfl, ?_⟩
      unfold sCost
      congr 2
      repeat' split
      all_goals first | rfl | omega
    · refine z_iload_n dX4_cost_17 rfl ?_
      refine z_getst (t := 0) dX4_cost_18 (by decide) sX4_129 ?_
      refine z_stlen dX4_cost_21 rfl (by decide) ?_
      refine z_icmp_lt (tgt := 28) dX4_cost_22 (by decide) (by omega) (by decide) (fun c22 => ?_) (fun c22 => ?_)
      · have h3 : ((zm_st 0).2.length : Int) = 3 := rfl
        refine z_aload_n dX4_cost_28 rfl ?_
        refine z_getR (b := 0) dX4_cost_29 fX4_12 (by decide) (zsh175) rfl rfl ?_
        refine z_iload_n dX4_cost_32 rfl ?_
        refine z_callV mX1_creeps (vX1_creeps zP_0 hR (by omega) hI) rfl dX4_cost_33 kX4_132 (by decide) rfl (by show _ ≤ 8; simp) (zP_r0 (zP_0)) (zm_sh_p0 (zP_0)) (by decide) rfl (fun v33 M33 q33 => ?_)
        obtain ⟨rfl, b33, rfl, h33⟩ := q33
        try simp only [zpush]
        refine z_if_eq (tgt := 51) dX4_cost_36 (by decide) (by omega) (fun c36 => ?_) (fun c36 => ?_)
        · refine z_bipush dX4_cost_51 (by decide) ?_
          refine z_iret dX4_cost_53 rfl ?_
          refine ⟨rfl, ?_⟩
          unfold sCost
          congr 2
          repeat' split
          all_goals first | rfl | omega
        · refine z_aload_n dX4_cost_39 rfl ?_
          refine z_getR (b := 0) dX4_cost_40 fX4_12 (by decide) (zsh175) rfl rfl ?_
          refine z_iload_n dX4_cost_43 rfl ?_
          refine z_iload_n dX4_cost_44 rfl ?_
          refine z_callV mX1_stepCost (vX1_stepCost zP_0 hR (by omega) (by omega) hI) rfl dX4_cost_45 kX4_135 (by decide) rfl (by show _ ≤ 8; simp) (zP_r0 (zP_0)) (zm_sh_p0 (zP_0)) (by decide) rfl (fun v45 M45 q45 => ?_)
          obtain ⟨rfl, rfl⟩ := q45
          try simp only [zpush]
          refine z_goto (tgt := 53) dX4_cost_48 (by decide) ?_
          refine z_iret dX4_cost_53 rfl ?_
          refine ⟨rfl, ?_⟩
          unfold sCost
          congr 2
          repeat' split
          all_goals first | rfl | omega
      · have h3 : ((zm_st 0).2.length : Int) = 3 := rfl
        refine z_bipush dX4_cost_25 (by decide) ?_
        refine z_iret dX4_cost_27 rfl ?_
        refine ⟨rfl, ?_⟩
        unfold sCost
        congr 2
        repeat' split
        all_goals first | rfl | omega
  · refine z_iconst dX4_cost_11 ?_
    refine z_iret dX4_cost_12 rfl ?_
    refine ⟨rfl, ?_⟩
    unfold sCost
    congr 2
    repeat' split
    all_goals first | rfl | omega

theorem vX4_does {G : zG} {M : zM} {σ : zS} {k : Int} (hk : -2147483648 ≤ k ∧ k < 2147483648)  (hR : zRel M 0 σ) (hI : zI σ) : zCall G yX4_does YX4_does [.inr (some 175), .inl k] M (fun v M' => M = M' ∧ v = some (.inl (sDoes σ k))) := by
  refine zEnter (by decide +kernel) rfl (Nat.le_of_ble_eq_true rfl) ?_
  have hs9 := hI.1
  unfold zIs at hs9
  refine z_aload_n dX4_does_0 rfl ?_
  refine z_getR (b := 0) dX4_does_1 fX4_12 (by decide) (zsh175) rfl rfl ?_
  refine z_iload_n dX4_does_4 rfl ?_
  refine z_callV mX1_knows (vX1_knows zP_0 hR (by omega) hI) rfl dX4_does_5 kX4_125 (by decide) rfl (by show _ ≤ 8; simp) (zP_r0 (zP_0)) (zm_sh_p0 (zP_0)) (by decide) rfl (fun v5 M5 q5 => ?_)
  obtain ⟨rfl, b5, rfl, h5⟩ := q5
  try simp only [zpush]
  refine z_if_ne (tgt := 13) dX4_does_8 (by decide) (by omega) (fun c8 => ?_) (fun c8 => ?_)
  · refine z_aload_n dX4_does_13 rfl ?_
    refine z_getR (b := 0) dX4_does_14 fX4_12 (by decide) (zsh175) rfl rfl ?_
    refine z_iload_n dX4_does_17 rfl ?_
    refine z_callV mX1_creeps (vX1_creeps zP_0 hR (by omega) hI) rfl dX4_does_18 kX4_132 (by decide) rfl (by show _ ≤ 8; simp) (zP_r0 (zP_0)) (zm_sh_p0 (zP_0)) (by decide) rfl (fun v18 M18 q18 => ?_)
    obtain ⟨rfl, b18, rfl, h18⟩ := q18
    try simp only [zpush]
    refine z_if_eq (tgt := 35) dX4_does_21 (by decide) (by omega) (fun c21 => ?_) (fun c21 => ?_)
    · refine z_bipush dX4_does_35 (by decide) ?_
      refine z_iret dX4_does_37 rfl ?_
      refine ⟨rfl, ?_⟩
      unfold sDoes
      congr 2
      repeat' split
      all_goals first | rfl | omega
    · refine z_aload_n dX4_does_24 rfl ?_
      refine z_getR (b := 0) dX4_does_25 fX4_12 (by decide) (zsh175) rfl rfl ?_
      refine z_iload_n dX4_does_28 rfl ?_
      refine z_callV mX1_choice (vX1_choice zP_0 hR (by omega) hI) rfl dX4_does_29 kX4_138 (by decide) rfl (by show _ ≤ 8; simp) (zP_r0 (zP_0)) (zm_sh_p0 (zP_0)) (by decide) rfl (fun v29 M29 q29 => ?_)
      obtain ⟨rfl, rfl⟩ := q29
      try simp only [zpush]
      refine z_goto (tgt := 37) dX4_does_32 (by decide) ?_
      refine z_iret dX4_does_37 rfl ?_
      refine ⟨rfl, ?_⟩
      unfold sDoes
      congr 2
      repeat' split
      all_goals first | rfl | omega
  · refine z_iconst dX4_does_11 ?_
    refine z_iret dX4_does_12 rfl ?_
    refine ⟨rfl, ?_⟩
    unfold sDoes
    congr 2
    repeat' split
    all_goals first | rfl | omega

theorem vX4_reason {G : zG} {M : zM} {σ : zS} {k lane row : Int} (hk : -2147483648 ≤ k ∧ k < 2147483648) (hlane : -2147483648 ≤ lane ∧ lane < 2147483648) (hrow : -2147483648 ≤ row ∧ row < 2147483648)  (hR : zRel M 0 σ) (hI : zI σ) : zCall G yX4_reason YX4_reason [.inr (some 175), .inl k, .inl lane, .inl row] M (fun v M' => M = M' ∧ v = some (.inl (sReason σ k lane row))) := by
  refine zEnter (by decide +kernel) rfl (Nat.le_of_ble_eq_true rfl) ?_
  have hs9 := hI.1
  unfold zIs at hs9
  refine z_iload_n dX4_reason_0 rfl ?_
  refine z_iload_n dX4_reason_1 rfl ?_
  refine z_callS mX4_cellAt (vX4_cellAt (by omega) (by omega)) rfl dX4_reason_2 kX4_141 (by decide) rfl (by show _ ≤ 8; simp) (fun v2 M2 q2 => ?_)
  obtain ⟨rfl, c2, rfl, h2⟩ := q2
  try simp only [zpush]
  refine z_istore dX4_reason_5 (by decide) ?_
  refine z_aload_n dX4_reason_7 rfl ?_
  refine z_getR (b := 0) dX4_reason_8 fX4_12 (by decide) (zsh175) rfl rfl ?_
  refine z_iload_n dX4_reason_11 rfl ?_
  refine z_callV mX1_knows (vX1_knows zP_0 hR (by omega) hI) rfl dX4_reason_12 kX4_125 (by decide) rfl (by show _ ≤ 8; simp) (zP_r0 (zP_0)) (zm_sh_p0 (zP_0)) (by decide) rfl (fun v12 M12 q12 => ?_)
  obtain ⟨rfl, b12, rfl, h12⟩ := q12
  try simp only [zpush]
  refine z_if_eq (tgt := 24) dX4_reason_15 (by decide) (by omega) (fun c15 => ?_) (fun c15 => ?_)
  · refine z_iconst dX4_reason_24 ?_
    refine z_iret dX4_reason_25 rfl ?_
    refine ⟨rfl, ?_⟩
    unfold sReason
    congr 2
    repeat' split
    all_goals first | rfl | omega
  · refine z_iload dX4_reason_18 rfl ?_
    refine z_iconst dX4_reason_20 ?_
    refine z_icmp_ne (tgt := 26) dX4_reason_21 (by decide) (by omega) (by omega) (fun c21 => ?_) (fun c21 => ?_)
    · have hce : c2 = 6 * row + lane := by omega
      subst hce
      refine z_aload_n dX4_reason_26 rfl ?_
      refine z_getR (b := 0) dX4_reason_27 fX4_12 (by decide) (zsh175) rfl rfl ?_
      refine z_iload_n dX4_reason_30 rfl ?_
      refine z_iload dX4_reason_31 rfl ?_
      refine z_callV mX1_whyNoHelp (vX1_whyNoHelp zP_0 hR (by omega) (by omega) hI) rfl dX4_reason_33 kX4_144 (by decide) rfl (by show _ ≤ 8; simp) (zP_r0 (zP_0)) (zm_sh_p0 (zP_0)) (by decide) rfl (fun v33 M33 q33 => ?_)
      obtain ⟨rfl, rfl⟩ := q33
      try simp only [zpush]
      refine z_iret dX4_reason_36 rfl ?_
      refine ⟨rfl, ?_⟩
      unfold sReason
      congr 2
      repeat' split
      all_goals first | rfl | omega
    · refine z_iconst dX4_reason_24 ?_
      refine z_iret dX4_reason_25 rfl ?_
      refine ⟨rfl, ?_⟩
      unfold sReason
      congr 2
      repeat' split
      all_goals first | rfl | omega

theorem vX4_count {G : zG} {M : zM} {σ : zS} {w : Int} (hw : -2147483648 ≤ w ∧ w < 2147483648)  (hR : zRel M 0 σ) (hI : zI σ) : zCall G yX4_count YX4_count [.inr (some 175), .inl w] M (fun v M' => M = M' ∧ v = some (.inl (sCount σ (M 176 1) (M 178 1) w))) := by
  refine zEnter (by decide +kernel) rfl (Nat.le_of_ble_eq_true rfl) ?_
  have hs9 := hI.1
  unfold zIs at hs9
  refine z_iload_n dX4_count_0 rfl ?_
  rcases (show w = 13 ∨ w = 14 ∨ (¬ w = 13 ∧ ¬ w = 14) by omega) with h1 | h1 | h1
  · refine z_look (off := 27) (tgt := 28) dX4_count_1 (by decide) (by omega) (by rw [h1]; rfl) (by decide) ?_
    refine z_aload_n dX4_count_28 rfl ?_
    refine z_getR (b := 176) dX4_count_29 fX4_29 (by decide) (zsh175) rfl rfl ?_
    refine z_getI (kI := 1) dX4_count_32 fX4_175 (by decide) (zsh176) rfl rfl ?_
    refine z_iret dX4_count_35 rfl ?_
    subst h1
    exact ⟨rfl, rfl⟩
  · refine z_look (off := 35) (tgt := 36) dX4_count_1 (by decide) (by omega) (by rw [h1]; rfl) (by decide) ?_
    refine z_aload_n dX4_count_36 rfl ?_
    refine z_getR (b := 178) dX4_count_37 fX4_36 (by decide) (zsh175) rfl rfl ?_
    refine z_getI (kI := 1) dX4_count_40 fX4_178 (by decide) (zsh178) rfl rfl ?_
    refine z_iret dX4_count_43 rfl ?_
    subst h1
    exact ⟨rfl, rfl⟩
  · refine z_look (off := 43) (tgt := 44) dX4_count_1 (by decide) (by omega) (by show (if _ = _ then _ else if _ = _ then _ else _) = _; rw [if_neg (by omega), if_neg (by omega)]; rfl) (by decide) ?_
    refine z_aload_n dX4_count_44 rfl ?_
    refine z_getR (b := 0) dX4_count_45 fX4_12 (by decide) (zsh175) rfl rfl ?_
    refine z_iload_n dX4_count_48 rfl ?_
    refine z_callV mX1_tellCount (vX1_tellCount zP_0 hR (by omega) hI) rfl dX4_count_49 kX4_181 (by decide) rfl (by show _ ≤ 8; simp) (zP_r0 (zP_0)) (zm_sh_p0 (zP_0)) (by decide) rfl (fun v49 M49 q49 => ?_)
    obtain ⟨rfl, rfl⟩ := q49
    try simp only [zpush]
    refine z_iret dX4_count_52 rfl ?_
    exact ⟨rfl, by rw [sCount_o σ (M 176 1) (M 178 1) (by omega)]⟩

theorem vX4_endsIn {G : zG} {M : zM} {σ : zS} {k : Int} (hk : -2147483648 ≤ k ∧ k < 2147483648)  (hR : zRel M 0 σ) (hB : zB σ) (hX : zX σ) : zCall G yX4_endsIn YX4_endsIn [.inr (some 175), .inl k] M (fun v M' => v = some (.inl (sEndsIn σ k)) ∧ zKp M M') := by
  refine zEnter (by decide +kernel) rfl (Nat.le_of_ble_eq_true rfl) ?_
  have hA := hB.1
  have hI := hA.1
  have hs9 := hI.1
  unfold zIs at hs9
  have h8 := hB.2.1
  have ht0 := hB.2.2
  refine z_aload_n dX4_endsIn_0 rfl ?_
  refine z_getR (b := 0) dX4_endsIn_1 fX4_12 (by decide) (zsh175) rfl rfl ?_
  refine z_iload_n dX4_endsIn_4 rfl ?_
  refine z_callV mX1_knows (vX1_knows zP_0 hR (by omega) hI) rfl dX4_endsIn_5 kX4_125 (by decide) rfl (by show _ ≤ 8; simp) (zP_r0 (zP_0)) (zm_sh_p0 (zP_0)) (by decide) rfl (fun v5 M5 q5 => ?_)
  obtain ⟨rfl, b5, rfl, h5⟩ := q5
  try simp only [zpush]
  refine z_if_ne (tgt := 13) dX4_endsIn_8 (by decide) (by omega) (fun c8 => ?_) (fun c8 => ?_)
  · refine z_aload_n dX4_endsIn_13 rfl ?_
    refine z_getR (b := 0) dX4_endsIn_14 fX4_12 (by decide) (zsh175) rfl rfl ?_
    refine z_iload_n dX4_endsIn_17 rfl ?_
    refine z_callV mX1_hasEnded (vX1_hasEnded zP_0 hR (by omega) hI) rfl dX4_endsIn_18 kX4_147 (by decide) rfl (by show _ ≤ 8; simp) (zP_r0 (zP_0)) (zm_sh_p0 (zP_0)) (by decide) rfl (fun v18 M18 q18 => ?_)
    obtain ⟨rfl, b18, rfl, h18⟩ := q18
    try simp only [zpush]
    refine z_if_eq (tgt := 26) dX4_endsIn_21 (by decide) (by omega) (fun c21 => ?_) (fun c21 => ?_)
    · refine z_aload_n dX4_endsIn_26 rfl ?_
      refine z_getR (b := 0) dX4_endsIn_27 fX4_12 (by decide) (zsh175) rfl rfl ?_
      refine z_iload_n dX4_endsIn_30 rfl ?_
      refine z_callV mX1_creeps (vX1_creeps zP_0 hR (by omega) hI) rfl dX4_endsIn_31 kX4_132 (by decide) rfl (by show _ ≤ 8; simp) (zP_r0 (zP_0)) (zm_sh_p0 (zP_0)) (by decide) rfl (fun v31 M31 q31 => ?_)
      obtain ⟨rfl, b31, rfl, h31⟩ := q31
      try simp only [zpush]
      refine z_if_ne (tgt := 40) dX4_endsIn_34 (by decide) (by omega) (fun c34 => ?_) (fun c34 => ?_)
      · have hk9 := hI.2.2 k (by omega) (by omega)
        unfold zIk at hk9
        have hkR := hR.2.1 k (by omega) (by omega)
        unfold zRk at hkR
        refine z_aload_n dX4_endsIn_40 rfl ?_
        refine z_getR (b := 25) dX4_endsIn_41 fX4_16 (by decide) (zsh175) rfl rfl ?_
        refine z_aload_n dX4_endsIn_44 rfl ?_
        refine z_getR (b := 0) dX4_endsIn_45 fX4_12 (by decide) (zsh175) rfl rfl ?_
        refine z_callV mX1_copyFrom (vX1_copyFrom zP_25 zP_0 (by decide) hR hI) rfl dX4_endsIn_48 kX4_54 (by decide) rfl (by show _ ≤ 8; simp) (zP_r0 (zP_25)) (zm_sh_p0 (zP_25)) (by decide) rfl (fun v48 M48 q48 => ?_)
        obtain ⟨rfl, hR25, hO25⟩ := q48
        try simp only [zpush]
        refine z_aload_n dX4_endsIn_51 rfl ?_
        refine z_getR (b := 25) dX4_endsIn_52 fX4_16 (by decide) (zsh175) rfl rfl ?_
        refine z_iload_n dX4_endsIn_55 rfl ?_
        refine z_sipush dX4_endsIn_56 (by decide) ?_
        refine z_callV mX1_passUntilEnd (vX1_passUntilEnd zP_25 hR25 (by omega) (by decide) hA hX ht0 (by omega)) rfl dX4_endsIn_59 kX4_150 (by decide) rfl (by show _ ≤ 8; simp) (zP_r0 (zP_25)) (zm_sh_p0 (zP_25)) (by decide) rfl (fun v59 M59 q59 => ?_)
        obtain ⟨rfl, hO59⟩ := q59
        try simp only [zpush]
        refine z_iret dX4_endsIn_62 rfl ?_
        refine ⟨?_, (zKp.off hO25).tr (zKp.off hO59)⟩
        have hst := sEnds_step (k := k) (i := 0) (s := σ) (by decide)
        rw [if_pos (by omega)] at hst
        have hrr := sEnds_r k (0 + 1) (sTurn σ) (by decide)
        unfold sEndsIn
        rw [if_neg (show ¬ ¬ (0 ≤ k ∧ k < σ 535) by omega), if_neg (show ¬ σ (360 + 10 * k + 3) = 2 by omega)]
        congr 2
        split <;> omega
      · refine z_bipush dX4_endsIn_37 (by decide) ?_
        refine z_iret dX4_endsIn_39 rfl ?_
        have hk9 := hI.2.2 k (by omega) (by omega)
        unfold zIk at hk9
        exact ⟨by unfold sEndsIn; rw [if_neg (by omega), if_pos (by omega)], zKp.rf M⟩
    · refine z_iconst dX4_endsIn_24 ?_
      refine z_iret dX4_endsIn_25 rfl ?_
      exact ⟨by unfold sEndsIn; rw [if_neg (by omega), if_neg (by omega), sEnds_step (by decide), if_neg (by omega), if_pos (by omega)], zKp.rf M⟩
  · refine z_iconst dX4_endsIn_11 ?_
    refine z_iret dX4_endsIn_12 rfl ?_
    exact ⟨by unfold sEndsIn; rw [if_pos (by omega)], zKp.rf M⟩

theorem vX4_wayUp {G : zG} {M : zM} {σ : zS} {lane row w : Int} (hlane : -2147483648 ≤ lane ∧ lane < 2147483648) (hrow : -2147483648 ≤ row ∧ row < 2147483648) (hw : -2147483648 ≤ w ∧ w < 2147483648)  (hR : zRel M 0 σ) (hI : zI σ) : zCall G yX4_wayUp YX4_wayUp [.inr (some 175), .inl lane, .inl row, .inl w] M (fun v M' => v = some (.inl (sWay σ lane row w)) ∧ zKp M M') := by
  refine zEnter (by decide +kernel) rfl (Nat.le_of_ble_eq_true rfl) ?_
  have hs9 := hI.1
  unfold zIs at hs9
  refine z_iload_n dX4_wayUp_0 rfl ?_
  refine z_iload_n dX4_wayUp_1 rfl ?_
  refine z_callS mX4_cellAt (vX4_cellAt (by omega) (by omega)) rfl dX4_wayUp_2 kX4_141 (by decide) rfl (by show _ ≤ 8; simp) (fun v2 M2 q2 => ?_)
  obtain ⟨rfl, c2, rfl, h2⟩ := q2
  try simp only [zpush]
  refine z_iconst dX4_wayUp_5 ?_
  refine z_icmp_ne (tgt := 11) dX4_wayUp_6 (by decide) (by omega) (by omega) (fun c6 => ?_) (fun c6 => ?_)
  · refine z_iload_n dX4_wayUp_11 rfl ?_
    rcases (show w = 0 ∨ w = 1 ∨ (¬ w = 0 ∧ ¬ w = 1) by omega) with h12 | h12 | h12
    · refine z_look (off := 28) (tgt := 40) dX4_wayUp_12 (by decide) (by omega) (by rw [h12]; rfl) (by decide) ?_
      refine z_aload_n dX4_wayUp_40 rfl ?_
      refine z_getR (b := 184) dX4_wayUp_41 fX4_43 (by decide) (zsh175) rfl rfl ?_
      refine z_aload_n dX4_wayUp_44 rfl ?_
      refine z_getR (b := 0) dX4_wayUp_45 fX4_12 (by decide) (zsh175) rfl rfl ?_
      refine z_iload_n dX4_wayUp_48 rfl ?_
      refine z_iload_n dX4_wayUp_49 rfl ?_
      refine z_callV mX3_fromRimDown (vX3_fromRimDown zP_0 hR hI (by omega) (by omega)) rfl dX4_wayUp_50 kX4_153 (by decide) rfl (by show _ ≤ 8; simp) (by decide) (zsh184) (by decide) rfl (fun v50 M50 q50 => ?_)
      obtain ⟨rfl, hO50⟩ := q50
      try simp only [zpush]
      refine z_iret dX4_wayUp_53 rfl ?_
      exact ⟨by unfold sWay; rw [if_neg (by omega), if_neg (by omega), zU_e σ (by omega)], ⟨fun a ha => hO50 a (by omega), by rw [hO50 178 (by decide)]⟩⟩
    · refine z_look (off := 42) (tgt := 54) dX4_wayUp_12 (by decide) (by omega) (by rw [h12]; rfl) (by decide) ?_
      refine z_aload_n dX4_wayUp_54 rfl ?_
      refine z_getR (b := 184) dX4_wayUp_55 fX4_43 (by decide) (zsh175) rfl rfl ?_
      refine z_aload_n dX4_wayUp_58 rfl ?_
      refine z_getR (b := 0) dX4_wayUp_59 fX4_12 (by decide) (zsh175) rfl rfl ?_
      refine z_iload_n dX4_wayUp_62 rfl ?_
      refine z_iload_n dX4_wayUp_63 rfl ?_
      refine z_callV mX3_leastSumFirst (vX3_leastSumFirst zP_0 hR hI (by omega) (by omega)) rfl dX4_wayUp_64 kX4_157 (by decide) rfl (by show _ ≤ 8; simp) (by decide) (zsh184) (by decide) rfl (fun v64 M64 q64 => ?_)
      obtain ⟨rfl, hO64⟩ := q64
      try simp only [zpush]
      refine z_iret dX4_wayUp_67 rfl ?_
      exact ⟨by unfold sWay; rw [if_neg (by omega), if_neg (by omega), zU_e σ (by omega)], ⟨fun a ha => hO64 a (by omega) (by omega), by rw [hO64 178 (by decide) (by decide)]⟩⟩
    · refine z_look (off := 56) (tgt := 68) dX4_wayUp_12 (by decide) (by omega) (by show (if _ = _ then _ else if _ = _ then _ else _) = _; rw [if_neg (by omega), if_neg (by omega)]; rfl) (by decide) ?_
      refine z_bipush dX4_wayUp_68 (by decide) ?_
      refine z_iret dX4_wayUp_70 rfl ?_
      exact ⟨by unfold sWay; rw [if_neg (by omega), if_pos (by omega)], zKp.rf M⟩
  · refine z_iconst dX4_wayUp_9 ?_
    refine z_iret dX4_wayUp_10 rfl ?_
    exact ⟨by unfold sWay; rw [if_pos (by omega)], zKp.rf M⟩

def sTF (σ : zS) (lane slime m : Int) : Int := if sOn σ lane 0 ≠ -5 then -5 else if 1 ≤ sEnds (σ 535) 0 (sCome σ lane slime) ∧ sEnds (σ 535) 0 (sCome σ lane slime) ≤ m then sEnds (σ 535) 0 (sCome σ lane slime) else -5
theorem sCo_E {σ : zS} (hm : 0 ≤ σ 535 ∧ σ 535 ≤ 8) (lane slime : Int) : sEnds (σ 535) 0 (sCome σ lane slime) = -5 ∨ (1 ≤ sEnds (σ 535) 0 (sCome σ lane slime) ∧ sEnds (σ 535) 0 (sCome σ lane slime) ≤ 300) := by
  have h3 : sCome σ lane slime (360 + 10 * σ 535 + 3) = 0 := by rw [sCo_at hm (w := 3) (by decide)]; rfl
  rw [sEnds_step (by decide), if_pos h3]
  exact sEnds_r _ _ _ (by decide)

theorem vX4_turnsFrom {G : zG} {M : zM} {σ : zS} {lane slime m : Int}   (hR : zRel M 0 σ) (hB : zB σ) (hX : zX σ) (hl : 0 ≤ lane ∧ lane ≤ 5) (hs : 0 ≤ slime ∧ slime ≤ 99) (hm : 0 ≤ m ∧ m ≤ 300) : zCall G yX4_turnsFrom YX4_turnsFrom [.inr (some 175), .inl lane, .inl slime, .inl m] M (fun v M' => v = some (.inl (sTF σ lane slime m)) ∧ zKp M M') := by
  refine zEnter (by decide +kernel) rfl (Nat.le_of_ble_eq_true rfl) ?_
  have hA := hB.1
  have hI := hA.1
  have hs9 := hI.1
  unfold zIs at hs9
  have h8 := hB.2.1
  have ht0 := hB.2.2
  refine z_aload_n dX4_turnsFrom_0 rfl ?_
  refine z_getR (b := 0) dX4_turnsFrom_1 fX4_12 (by decide) (zsh175) rfl rfl ?_
  refine z_iload_n dX4_turnsFrom_4 rfl ?_
  refine z_iconst dX4_turnsFrom_5 ?_
  refine z_callV mX1_snailOn (vX1_snailOn zP_0 hR (by omega) (by omega) hI) rfl dX4_turnsFrom_6 kX4_169 (by decide) rfl (by show _ ≤ 8; simp) (zP_r0 (zP_0)) (zm_sh_p0 (zP_0)) (by decide) rfl (fun v6 M6 q6 => ?_)
  obtain ⟨rfl, rfl⟩ := q6
  try simp only [zpush]
  have hso := sOn_r hI lane 0
  refine z_bipush dX4_turnsFrom_9 (by decide) ?_
  refine z_icmp_eq (tgt := 17) dX4_turnsFrom_11 (by decide) (by omega) (by omega) (fun c11 => ?_) (fun c11 => ?_)
  · refine z_aload_n dX4_turnsFrom_17 rfl ?_
    refine z_getR (b := 25) dX4_turnsFrom_18 fX4_16 (by decide) (zsh175) rfl rfl ?_
    refine z_aload_n dX4_turnsFrom_21 rfl ?_
    refine z_getR (b := 0) dX4_turnsFrom_22 fX4_12 (by decide) (zsh175) rfl rfl ?_
    refine z_callV mX1_copyFrom (vX1_copyFrom zP_25 zP_0 (by decide) hR hI) rfl dX4_turnsFrom_25 kX4_54 (by decide) rfl (by show _ ≤ 8; simp) (zP_r0 (zP_25)) (zm_sh_p0 (zP_25)) (by decide) rfl (fun v25 M25 q25 => ?_)
    obtain ⟨rfl, hR25, hO25⟩ := q25
    try simp only [zpush]
    refine z_aload_n dX4_turnsFrom_28 rfl ?_
    refine z_getR (b := 25) dX4_turnsFrom_29 fX4_16 (by decide) (zsh175) rfl rfl ?_
    refine z_iload_n dX4_turnsFrom_32 rfl ?_
    refine z_iload_n dX4_turnsFrom_33 rfl ?_
    refine z_callV mX1_addSnail (vX1_addSnail zP_25 hR25 h8 hI) rfl dX4_turnsFrom_34 kX4_172 (by decide) rfl (by show _ ≤ 8; simp) (zP_r0 (zP_25)) (zm_sh_p0 (zP_25)) (by decide) rfl (fun v34 M34 q34 => ?_)
    obtain ⟨rfl, hR34, hO34⟩ := q34
    try simp only [zpush]
    have hco := zA_come hA h8 hl hs
    have hm5 := sCo_many (lane := lane) (slime := slime) (σ := σ) (by omega)
    have h3z : sCome σ lane slime (360 + 10 * σ 535 + 3) = 0 := by
      rw [sCo_at (by omega) (w := 3) (by decide)]
      rfl
    refine z_istore dX4_turnsFrom_37 (by decide) ?_
    refine z_aload_n dX4_turnsFrom_39 rfl ?_
    refine z_getR (b := 25) dX4_turnsFrom_40 fX4_16 (by decide) (zsh175) rfl rfl ?_
    refine z_iload dX4_turnsFrom_43 rfl ?_
    refine z_iload_n dX4_turnsFrom_45 rfl ?_
    refine z_callV mX1_passUntilEnd (vX1_passUntilEnd zP_25 hR34 (by omega) (by omega) hco.1 (zX_come hX (by omega) lane slime) (by rw [hco.2]; exact ht0) h3z) rfl dX4_turnsFrom_46 kX4_150 (by decide) rfl (by show _ ≤ 8; simp) (zP_r0 (zP_25)) (zm_sh_p0 (zP_25)) (by decide) rfl (fun v46 M46 q46 => ?_)
    obtain ⟨rfl, hO46⟩ := q46
    try simp only [zpush]
    refine z_iret dX4_turnsFrom_49 rfl ?_
    exact ⟨by unfold sTF; rw [if_neg (show ¬ sOn σ lane 0 ≠ -5 by omega)], ((zKp.off hO25).tr (zKp.off hO34)).tr (zKp.off hO46)⟩
  · refine z_bipush dX4_turnsFrom_14 (by decide) ?_
    refine z_iret dX4_turnsFrom_16 rfl ?_
    exact ⟨by unfold sTF; rw [if_pos (by omega)], zKp.rf M⟩

theorem vX4_bestLane {G : zG} {M : zM} {σ : zS} {slime w : Int} (hslime : -2147483648 ≤ slime ∧ slime < 2147483648) (hw : -2147483648 ≤ w ∧ w < 2147483648)  (hR : zRel M 0 σ) (hB : zB σ) (hX : zX σ) : zCall G yX4_bestLane YX4_bestLane [.inr (some 175), .inl slime, .inl w] M (fun v M' => v = some (.inl (sBestLane σ slime w)) ∧ zKp M M') := by
  refine zEnter (by decide +kernel) rfl (Nat.le_of_ble_eq_true rfl) ?_
  have hA := hB.1
  have hI := hA.1
  have hs9 := hI.1
  unfold zIs at hs9
  have h8 := hB.2.1
  have ht0 := hB.2.2
  refine z_iload_n dX4_bestLane_0 rfl ?_
  refine z_if_lt (tgt := 19) dX4_bestLane_1 (by decide) (by omega) (fun c1 => ?_) (fun c1 => ?_)
  · refine z_bipush dX4_bestLane_19 (by decide) ?_
    refine z_iret dX4_bestLane_21 rfl ?_
    exact ⟨by unfold sBestLane; rw [if_pos (by omega)], zKp.rf M⟩
  · refine z_iload_n dX4_bestLane_4 rfl ?_
    refine z_bipush dX4_bestLane_5 (by decide) ?_
    refine z_icmp_gt (tgt := 19) dX4_bestLane_7 (by decide) (by omega) (by omega) (fun c7 => ?_) (fun c7 => ?_)
    · refine z_bipush dX4_bestLane_19 (by decide) ?_
      refine z_iret dX4_bestLane_21 rfl ?_
      exact ⟨by unfold sBestLane; rw [if_pos (by omega)], zKp.rf M⟩
    · refine z_iload_n dX4_bestLane_10 rfl ?_
      refine z_if_lt (tgt := 19) dX4_bestLane_11 (by decide) (by omega) (fun c11 => ?_) (fun c11 => ?_)
      · refine z_bipush dX4_bestLane_19 (by decide) ?_
        refine z_iret dX4_bestLane_21 rfl ?_
        exact ⟨by unfold sBestLane; rw [if_pos (by omega)], zKp.rf M⟩
      · refine z_iload_n dX4_bestLane_14 rfl ?_
        refine z_iconst dX4_bestLane_15 ?_
        refine z_icmp_le (tgt := 22) dX4_bestLane_16 (by decide) (by omega) (by omega) (fun c16 => ?_) (fun c16 => ?_)
        · refine z_bipush dX4_bestLane_22 (by decide) ?_
          refine z_istore_n dX4_bestLane_24 (by decide) ?_
          refine z_sipush dX4_bestLane_25 (by decide) ?_
          refine z_istore dX4_bestLane_28 (by decide) ?_
          refine z_iconst dX4_bestLane_30 ?_
          refine z_istore dX4_bestLane_31 (by decide) ?_
          have L : ∀ (n : Nat) (i : Int) (b : Int) (tb : Int) (x : Int × Int) (N : zM), (0 ≤ i ∧ i ≤ 6) → (i + n = 7) → (zKp M N) → ((b = -5 ∧ tb = 301 ∧ x.1 = -5 ∧ x.2 = -5) ∨ ((0 ≤ b ∧ b ≤ 5) ∧ b = x.1 ∧ tb = x.2 ∧ 1 ≤ tb ∧ tb ≤ 300)) → (zfor (sBestF σ slime) i 6 x = sBest σ slime) → zW G YX4_bestLane (fun v M' => v = some (.inl (sBestLane σ slime w)) ∧ zKp M M') 33 [(5, .inl i), (3, .inl b), (4, .inl tb), (0, .inr (some 175)), (1, .inl slime), (2, .inl w)] [] N := by
            intro n
            induction n with
            | zero => intro i b tb x N hi hin hK hx he; exfalso; omega
            | succ n ih =>
              intro i b tb x N hi hin hK hx he
              refine z_iload dX4_bestLane_33 rfl ?_
              refine z_bipush dX4_bestLane_35 (by decide) ?_
              refine z_icmp_ge (tgt := 73) dX4_bestLane_37 (by decide) (by omega) (by omega) (fun c37 => ?_) (fun c37 => ?_)
              · rw [zfor_end (by omega)] at he
                refine z_iload_n dX4_bestLane_73 rfl ?_
                refine z_bipush dX4_bestLane_74 (by decide) ?_
                refine z_icmp_eq (tgt := 83) dX4_bestLane_76 (by decide) (by omega) (by omega) (fun c76 => ?_) (fun c76 => ?_)
                · refine z_iload_n dX4_bestLane_83 rfl ?_
                  refine z_goto (tgt := 89) dX4_bestLane_84 (by decide) ?_
                  refine z_iret dX4_bestLane_89 rfl ?_
                  refine ⟨?_, hK⟩
                  unfold sBestLane
                  rw [if_neg (by omega), ← he]
                  congr 2
                  split <;> omega
                · refine z_iload_n dX4_bestLane_79 rfl ?_
                  refine z_if_ne (tgt := 87) dX4_bestLane_80 (by decide) (by omega) (fun c80 => ?_) (fun c80 => ?_)
                  · refine z_iload dX4_bestLane_87 rfl ?_
                    refine z_iret dX4_bestLane_89 rfl ?_
                    refine ⟨?_, hK⟩
                    unfold sBestLane
                    rw [if_neg (by omega), ← he]
                    congr 2
                    split <;> omega
                  · refine z_iload_n dX4_bestLane_83 rfl ?_
                    refine z_goto (tgt := 89) dX4_bestLane_84 (by decide) ?_
                    refine z_iret dX4_bestLane_89 rfl ?_
                    refine ⟨?_, hK⟩
                    unfold sBestLane
                    rw [if_neg (by omega), ← he]
                    congr 2
                    split <;> omega
              · have hRN := hR.mv (N := N) (fun a q1 q2 => hK.1 a (by omega))
                have hE := sCo_E (σ := σ) (by omega) i slime
                have hTr : sTF σ i slime (tb - 1) = -5 ∨ (1 ≤ sTF σ i slime (tb - 1) ∧ sTF σ i slime (tb - 1) ≤ 300) := by
                  unfold sTF
                  repeat' split
                  all_goals omega
                refine z_aload_n dX4_bestLane_40 rfl ?_
                refine z_iload dX4_bestLane_41 rfl ?_
                refine z_iload_n dX4_bestLane_43 rfl ?_
                refine z_iload dX4_bestLane_44 rfl ?_
                refine z_iconst dX4_bestLane_46 ?_
                refine z_isub dX4_bestLane_47 ?_
                refine z_callV mX4_turnsFrom (vX4_turnsFrom hRN hB hX (by omega) (by omega) (by omega)) rfl dX4_bestLane_48 kX4_166 (by decide) rfl (by show _ ≤ 8; simp) (by decide) (zsh175) (by decide) rfl (fun v48 M48 q48 => ?_)
                obtain ⟨rfl, hK48⟩ := q48
                try simp only [zpush]
                refine z_istore dX4_bestLane_51 (by decide) ?_
                refine z_iload dX4_bestLane_53 rfl ?_
                refine z_bipush dX4_bestLane_55 (by decide) ?_
                refine z_icmp_eq (tgt := 67) dX4_bestLane_57 (by decide) (by omega) (by omega) (fun c57 => ?_) (fun c57 => ?_)
                · refine z_iinc dX4_bestLane_67 rfl (by decide) ?_
                  refine z_goto (tgt := 33) dX4_bestLane_70 (by decide) ?_
                  rw [zfor_step (by omega)] at he
                  first
                    | (have hf : sBestF σ slime i x = x := (by unfold sBestF; unfold sTF at c57; apply if_neg; intro q; rw [if_neg (by omega)] at c57; split at c57 <;> omega)
                       rw [hf] at he; exact zsub' (ih (i + 1) b tb x _ (by omega) (by omega) (hK.tr hK48) hx he) ⟨rfl, rfl, rfl, rfl, rfl, rfl, trivial⟩)
                    | (have hso : sOn σ i 0 = -5 := (by unfold sTF at c57; by_cases q : sOn σ i 0 = -5; exact q; exact absurd (if_pos q) c57)
                       have hz : 1 ≤ sEnds (σ 535) 0 (sCome σ i slime) ∧ sEnds (σ 535) 0 (sCome σ i slime) ≤ tb - 1 := (by unfold sTF at c57; rw [if_neg (by omega)] at c57; split at c57; assumption; exact absurd rfl c57)
                       have hv : sTF σ i slime (tb - 1) = sEnds (σ 535) 0 (sCome σ i slime) := (by unfold sTF; rw [if_neg (by omega), if_pos hz])
                       have hf : sBestF σ slime i x = (i, sEnds (σ 535) 0 (sCome σ i slime)) := (by unfold sBestF; exact if_pos ⟨hso, by omega, by omega⟩)
                       rw [hf] at he; exact zsub' (ih (i + 1) i _ (i, sEnds (σ 535) 0 (sCome σ i slime)) _ (by omega) (by omega) (hK.tr hK48) (Or.inr ⟨by omega, rfl, hv, by omega, by omega⟩) he) ⟨rfl, rfl, rfl, rfl, rfl, rfl, trivial⟩)
                · refine z_iload dX4_bestLane_60 rfl ?_
                  refine z_istore_n dX4_bestLane_62 (by decide) ?_
                  refine z_iload dX4_bestLane_63 rfl ?_
                  refine z_istore dX4_bestLane_65 (by decide) ?_
                  refine z_iinc dX4_bestLane_67 rfl (by decide) ?_
                  refine z_goto (tgt := 33) dX4_bestLane_70 (by decide) ?_
                  rw [zfor_step (by omega)] at he
                  first
                    | (have hf : sBestF σ slime i x = x := (by unfold sBestF; unfold sTF at c57; apply if_neg; intro q; rw [if_neg (by omega)] at c57; split at c57 <;> omega)
                       rw [hf] at he; exact zsub' (ih (i + 1) b tb x _ (by omega) (by omega) (hK.tr hK48) hx he) ⟨rfl, rfl, rfl, rfl, rfl, rfl, trivial⟩)
                    | (have hso : sOn σ i 0 = -5 := (by unfold sTF at c57; by_cases q : sOn σ i 0 = -5; exact q; exact absurd (if_pos q) c57)
                       have hz : 1 ≤ sEnds (σ 535) 0 (sCome σ i slime) ∧ sEnds (σ 535) 0 (sCome σ i slime) ≤ tb - 1 := (by unfold sTF at c57; rw [if_neg (by omega)] at c57; split at c57; assumption; exact absurd rfl c57)
                       have hv : sTF σ i slime (tb - 1) = sEnds (σ 535) 0 (sCome σ i slime) := (by unfold sTF; rw [if_neg (by omega), if_pos hz])
                       have hf : sBestF σ slime i x = (i, sEnds (σ 535) 0 (sCome σ i slime)) := (by unfold sBestF; exact if_pos ⟨hso, by omega, by omega⟩)
                       rw [hf] at he; exact zsub' (ih (i + 1) i _ (i, sEnds (σ 535) 0 (sCome σ i slime)) _ (by omega) (by omega) (hK.tr hK48) (Or.inr ⟨by omega, rfl, hv, by omega, by omega⟩) he) ⟨rfl, rfl, rfl, rfl, rfl, rfl, trivial⟩)
          exact zsub' (L 7 0 (-5) 301 (-5, -5) M (by omega) (by omega) (zKp.rf M) (Or.inl ⟨rfl, rfl, rfl, rfl⟩) rfl) ⟨rfl, rfl, rfl, rfl, rfl, rfl, trivial⟩
        · refine z_bipush dX4_bestLane_19 (by decide) ?_
          refine z_iret dX4_bestLane_21 rfl ?_
          exact ⟨by unfold sBestLane; rw [if_pos (by omega)], zKp.rf M⟩

