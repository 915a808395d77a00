theorem vX5_snail {G : zG} {M : zM} {σ : zS} {k w : Int} (hk : -2147483648 ≤ k ∧ k < 2147483648) (hw : -2147483648 ≤ w ∧ w < 2147483648) (hA : zA σ) (h4 : ∀ k : Int, 0 ≤ k → k < σ 535 → 0 ≤ σ (360 + 10 * k + 4) ∧ σ (360 + 10 * k + 4) ≤ 1000000) : zCall G yX5_snail YX5_snail [.inr (some 187), .inl k, .inl w] (zt M σ) (fun v M' => zt M σ = M' ∧ v = some (.inl (sSnail σ k w))) := by
  refine zEnter (by decide +kernel) rfl (Nat.le_of_ble_eq_true rfl) ?_
  have hI := hA.1
  have hs9 := hI.1
  unfold zIs at hs9
  refine z_aload_n dX5_snail_0 rfl ?_
  refine z_iload_n dX5_snail_1 rfl ?_
  refine z_callV mX5_isSnail (vX5_isSnail (by omega) hI) rfl dX5_snail_2 kX5_63 (by decide) rfl (by show _ ≤ 8; simp) (by decide) zsh187 (by decide) rfl (fun v2 M2 q2 => ?_)
  obtain ⟨rfl, b2, rfl, h2⟩ := q2
  try simp only [zpush]
  refine z_if_ne (tgt := 10) dX5_snail_5 (by decide) (by omega) (fun c5 => ?_) (fun c5 => ?_)
  · refine z_iload_n dX5_snail_10 rfl ?_
    refine z_iconst dX5_snail_11 ?_
    refine z_bipush dX5_snail_12 (by decide) ?_
    refine z_callS mX5_in (vX5_in (by omega) (by omega) (by omega)) rfl dX5_snail_14 kX5_32 (by decide) rfl (by show _ ≤ 8; simp) (fun v14 M14 q14 => ?_)
    obtain ⟨rfl, b14, rfl, h14⟩ := q14
    try simp only [zpush]
    refine z_if_ne (tgt := 23) dX5_snail_17 (by decide) (by omega) (fun c17 => ?_) (fun c17 => ?_)
    · have hk9 := hI.2.2 k (by omega) (by omega)
      unfold zIk at hk9
      refine z_aload_n dX5_snail_23 rfl ?_
      refine z_getR (b := 188) dX5_snail_24 fX5_7 (by decide) zsh187 rfl rfl ?_
      refine z_iload_n dX5_snail_27 rfl ?_
      refine z_iload_n dX5_snail_28 rfl ?_
      refine z_callS mX5_of vX5_of rfl dX5_snail_29 kX5_40 (by decide) rfl (by show _ ≤ 8; simp) (fun v29 M29 q29 => ?_)
      obtain ⟨rfl, rfl⟩ := q29
      try simp only [zpush]
      refine z_sload dX5_snail_32 (by omega) ?_
      refine z_istore_n dX5_snail_33 (by decide) ?_
      refine z_iload_n dX5_snail_34 rfl ?_
      refine z_iconst dX5_snail_35 ?_
      refine z_icmp_ne (tgt := 52) dX5_snail_36 (by decide) (by omega) (by omega) (fun c36 => ?_) (fun c36 => ?_)
      · refine z_iload_n dX5_snail_52 rfl ?_
        refine z_bipush dX5_snail_53 (by decide) ?_
        refine z_icmp_ne (tgt := 73) dX5_snail_55 (by decide) (by omega) (by omega) (fun c55 => ?_) (fun c55 => ?_)
        · refine z_iload_n dX5_snail_73 rfl ?_
          refine z_iret dX5_snail_74 rfl ?_
          refine ⟨rfl, ?_⟩
          unfold sSnail
          congr 2
          repeat' split
          all_goals first | rfl | omega
        · subst c55
          refine z_iload_n dX5_snail_58 rfl ?_
          refine z_if_ne (tgt := 67) dX5_snail_59 (by decide) (by omega) (fun c59 => ?_) (fun c59 => ?_)
          · refine z_iload_n dX5_snail_67 rfl ?_
            refine z_iconst dX5_snail_68 ?_
            refine z_isub dX5_snail_69 ?_
            refine z_goto (tgt := 74) dX5_snail_70 (by decide) ?_
            refine z_iret dX5_snail_74 rfl ?_
            refine ⟨rfl, ?_⟩
            unfold sSnail
            congr 2
            repeat' split
            all_goals first | rfl | omega
          · refine z_bipush dX5_snail_62 (by decide) ?_
            refine z_goto (tgt := 74) dX5_snail_64 (by decide) ?_
            refine z_iret dX5_snail_74 rfl ?_
            refine ⟨rfl, ?_⟩
            unfold sSnail
            congr 2
            repeat' split
            all_goals first | rfl | omega
      · subst c36
        have h44 := h4 k (by omega) (by omega)
        refine z_iload_n dX5_snail_39 rfl ?_
        refine z_if_ne (tgt := 48) dX5_snail_40 (by decide) (by omega) (fun c40 => ?_) (fun c40 => ?_)
        · refine z_iload_n dX5_snail_48 rfl ?_
          refine z_goto (tgt := 74) dX5_snail_49 (by decide) ?_
          refine z_iret dX5_snail_74 rfl ?_
          refine ⟨rfl, ?_⟩
          unfold sSnail
          congr 2
          repeat' split
          all_goals first | rfl | omega
        · refine z_bipush dX5_snail_43 (by decide) ?_
          refine z_goto (tgt := 74) dX5_snail_45 (by decide) ?_
          refine z_iret dX5_snail_74 rfl ?_
          refine ⟨rfl, ?_⟩
          unfold sSnail
          congr 2
          repeat' split
          all_goals first | rfl | omega
    · refine z_bipush dX5_snail_20 (by decide) ?_
      refine z_iret dX5_snail_22 rfl ?_
      refine ⟨rfl, ?_⟩
      unfold sSnail
      congr 2
      repeat' split
      all_goals first | rfl | omega
  · refine z_iconst dX5_snail_8 ?_
    refine z_iret dX5_snail_9 rfl ?_
    refine ⟨rfl, ?_⟩
    unfold sSnail
    congr 2
    repeat' split
    all_goals first | rfl | omega

theorem vX5_cell {G : zG} {M : zM} {σ : zS} {lane row w : Int} (hlane : -2147483648 ≤ lane ∧ lane < 2147483648) (hrow : -2147483648 ≤ row ∧ row < 2147483648) (hw : -2147483648 ≤ w ∧ w < 2147483648) (hA : zA σ) : zCall G yX5_cell YX5_cell [.inr (some 187), .inl lane, .inl row, .inl w] (zt M σ) (fun v M' => zt M σ = M' ∧ v = some (.inl (sCell σ lane row w))) := by
  refine zEnter (by decide +kernel) rfl (Nat.le_of_ble_eq_true rfl) ?_
  have hI := hA.1
  have hs9 := hI.1
  unfold zIs at hs9
  refine z_iload_n dX5_cell_0 rfl ?_
  refine z_iload_n dX5_cell_1 rfl ?_
  refine z_callS mX5_isCell (vX5_isCell (by omega) (by omega)) rfl dX5_cell_2 kX5_66 (by decide) rfl (by show _ ≤ 8; simp) (fun v2 M2 q2 => ?_)
  obtain ⟨rfl, b2, rfl, h2⟩ := q2
  try simp only [zpush]
  refine z_if_ne (tgt := 10) dX5_cell_5 (by decide) (by omega) (fun c5 => ?_) (fun c5 => ?_)
  · refine z_iload_n dX5_cell_10 rfl ?_
    refine z_iload_n dX5_cell_11 rfl ?_
    refine z_callS mX5_at vX5_at rfl dX5_cell_12 kX5_70 (by decide) rfl (by show _ ≤ 8; simp) (fun v12 M12 q12 => ?_)
    obtain ⟨rfl, rfl⟩ := q12
    try simp only [zpush]
    refine z_istore dX5_cell_15 (by decide) ?_
    have hc9 := hI.2.1 (6 * row + lane) (by omega) (by omega)
    unfold zIc at hc9
    refine z_iload_n dX5_cell_17 rfl ?_
    rcases (show w = 0 ∨ w = 1 ∨ w = 2 ∨ w = 3 ∨ (w < 0 ∨ 3 < w) by omega) with h18 | h18 | h18 | h18 | h18
    · refine z_tabIn (off := 30) (tgt := 48) dX5_cell_18 (by omega) (by omega) (by rw [h18]; rfl) (by decide) ?_
      refine z_aload_n dX5_cell_48 rfl ?_
      refine z_getR (b := 188) dX5_cell_49 fX5_7 (by decide) zsh187 rfl rfl ?_
      refine z_iconst dX5_cell_52 ?_
      refine z_iload dX5_cell_53 rfl ?_
      refine z_iadd dX5_cell_55 ?_
      rw [Int.zero_add]
      refine z_sload dX5_cell_56 (by omega) ?_
      refine z_iret dX5_cell_57 rfl ?_
      refine ⟨rfl, ?_⟩
      unfold sCell
      congr 2
      repeat' split
      all_goals first | rfl | omega
    · refine z_tabIn (off := 40) (tgt := 58) dX5_cell_18 (by omega) (by omega) (by rw [h18]; rfl) (by decide) ?_
      refine z_aload_n dX5_cell_58 rfl ?_
      refine z_getR (b := 188) dX5_cell_59 fX5_7 (by decide) zsh187 rfl rfl ?_
      refine z_bipush dX5_cell_62 (by decide) ?_
      refine z_iload dX5_cell_64 rfl ?_
      refine z_iadd dX5_cell_66 ?_
      refine z_sload dX5_cell_67 (by omega) ?_
      refine z_if_ne (tgt := 76) dX5_cell_68 (by decide) (by omega) (fun c68 => ?_) (fun c68 => ?_)
      · refine z_aload_n dX5_cell_76 rfl ?_
        refine z_getR (b := 188) dX5_cell_77 fX5_7 (by decide) zsh187 rfl rfl ?_
        refine z_bipush dX5_cell_80 (by decide) ?_
        refine z_iload dX5_cell_82 rfl ?_
        refine z_iadd dX5_cell_84 ?_
        refine z_sload dX5_cell_85 (by omega) ?_
        refine z_iconst dX5_cell_86 ?_
        refine z_isub dX5_cell_87 ?_
        refine z_iret dX5_cell_88 rfl ?_
        refine ⟨rfl, ?_⟩
        unfold sCell
        congr 2
        repeat' split
        all_goals first | rfl | omega
      · refine z_bipush dX5_cell_71 (by decide) ?_
        refine z_goto (tgt := 88) dX5_cell_73 (by decide) ?_
        refine z_iret dX5_cell_88 rfl ?_
        refine ⟨rfl, ?_⟩
        unfold sCell
        congr 2
        repeat' split
        all_goals first | rfl | omega
    · refine z_tabIn (off := 71) (tgt := 89) dX5_cell_18 (by omega) (by omega) (by rw [h18]; rfl) (by decide) ?_
      refine z_aload_n dX5_cell_89 rfl ?_
      refine z_getR (b := 188) dX5_cell_90 fX5_7 (by decide) zsh187 rfl rfl ?_
      refine z_bipush dX5_cell_93 (by decide) ?_
      refine z_iload dX5_cell_95 rfl ?_
      refine z_iadd dX5_cell_97 ?_
      refine z_sload dX5_cell_98 (by omega) ?_
      refine z_if_ne (tgt := 107) dX5_cell_99 (by decide) (by omega) (fun c99 => ?_) (fun c99 => ?_)
      · refine z_aload_n dX5_cell_107 rfl ?_
        refine z_getR (b := 188) dX5_cell_108 fX5_7 (by decide) zsh187 rfl rfl ?_
        refine z_sipush dX5_cell_111 (by decide) ?_
        refine z_iload dX5_cell_114 rfl ?_
        refine z_iadd dX5_cell_116 ?_
        refine z_sload dX5_cell_117 (by omega) ?_
        refine z_iret dX5_cell_118 rfl ?_
        refine ⟨rfl, ?_⟩
        unfold sCell
        congr 2
        repeat' split
        all_goals first | rfl | omega
      · refine z_bipush dX5_cell_102 (by decide) ?_
        refine z_goto (tgt := 118) dX5_cell_104 (by decide) ?_
        refine z_iret dX5_cell_118 rfl ?_
        refine ⟨rfl, ?_⟩
        unfold sCell
        congr 2
        repeat' split
        all_goals first | rfl | omega
    · refine z_tabIn (off := 101) (tgt := 119) dX5_cell_18 (by omega) (by omega) (by rw [h18]; rfl) (by decide) ?_
      refine z_aload_n dX5_cell_119 rfl ?_
      refine z_iload_n dX5_cell_120 rfl ?_
      refine z_iload_n dX5_cell_121 rfl ?_
      refine z_callV mX5_snailOn (vX5_snailOn (by omega) (by omega) hI) rfl dX5_cell_122 kX5_51 (by decide) rfl (by show _ ≤ 8; simp) (by decide) zsh187 (by decide) rfl (fun v122 M122 q122 => ?_)
      obtain ⟨rfl, rfl⟩ := q122
      try simp only [zpush]
      refine z_iret dX5_cell_125 rfl ?_
      refine ⟨rfl, ?_⟩
      unfold sCell
      congr 2
      repeat' split
      all_goals first | rfl | omega
    · refine z_tabOut (tgt := 126) dX5_cell_18 (by omega) h18 (by decide) ?_
      refine z_bipush dX5_cell_126 (by decide) ?_
      refine z_iret dX5_cell_128 rfl ?_
      refine ⟨rfl, ?_⟩
      unfold sCell
      congr 2
      repeat' split
      all_goals first | rfl | omega
  · refine z_iconst dX5_cell_8 ?_
    refine z_iret dX5_cell_9 rfl ?_
    refine ⟨rfl, ?_⟩
    unfold sCell
    congr 2
    repeat' split
    all_goals first | rfl | omega

theorem vX5_cost {G : zG} {M : zM} {σ : zS} {k s : Int} (hk : -2147483648 ≤ k ∧ k < 2147483648) (hs : -2147483648 ≤ s ∧ s < 2147483648) (hA : zA σ) : zCall G yX5_cost YX5_cost [.inr (some 187), .inl k, .inl s] (zt M σ) (fun v M' => zt M σ = M' ∧ v = some (.inl (sCost σ k s))) := by
  refine zEnter (by decide +kernel) rfl (Nat.le_of_ble_eq_true rfl) ?_
  have hI := hA.1
  have hs9 := hI.1
  unfold zIs at hs9
  refine z_aload_n dX5_cost_0 rfl ?_
  refine z_iload_n dX5_cost_1 rfl ?_
  refine z_callV mX5_isSnail (vX5_isSnail (by omega) hI) rfl dX5_cost_2 kX5_63 (by decide) rfl (by show _ ≤ 8; simp) (by decide) zsh187 (by decide) rfl (fun v2 M2 q2 => ?_)
  obtain ⟨rfl, b2, rfl, h2⟩ := q2
  try simp only [zpush]
  refine z_if_ne (tgt := 12) dX5_cost_5 (by decide) (by omega) (fun c5 => ?_) (fun c5 => ?_)
  · refine z_iload_n dX5_cost_12 rfl ?_
    refine z_iconst dX5_cost_13 ?_
    refine z_iconst dX5_cost_14 ?_
    refine z_callS mX5_in (vX5_in (by omega) (by omega) (by omega)) rfl dX5_cost_15 kX5_32 (by decide) rfl (by show _ ≤ 8; simp) (fun v15 M15 q15 => ?_)
    obtain ⟨rfl, b15, rfl, h15⟩ := q15
    try simp only [zpush]
    refine z_if_ne (tgt := 26) dX5_cost_18 (by decide) (by omega) (fun c18 => ?_) (fun c18 => ?_)
    · refine z_aload_n dX5_cost_26 rfl ?_
      refine z_iload_n dX5_cost_27 rfl ?_
      refine z_callV mX5_creeps (vX5_creeps (by omega) hI) rfl dX5_cost_28 kX5_48 (by decide) rfl (by show _ ≤ 8; simp) (by decide) zsh187 (by decide) rfl (fun v28 M28 q28 => ?_)
      obtain ⟨rfl, b28, rfl, h28⟩ := q28
      try simp only [zpush]
      refine z_if_eq (tgt := 43) dX5_cost_31 (by decide) (by omega) (fun c31 => ?_) (fun c31 => ?_)
      · refine z_bipush dX5_cost_43 (by decide) ?_
        refine z_iret dX5_cost_45 rfl ?_
        refine ⟨rfl, ?_⟩
        unfold sCost
        congr 2
        repeat' split
        all_goals first | rfl | omega
      · refine z_aload_n dX5_cost_34 rfl ?_
        refine z_iload_n dX5_cost_35 rfl ?_
        refine z_iload_n dX5_cost_36 rfl ?_
        refine z_callV mX5_price (vX5_price hI (by omega) (by omega)) rfl dX5_cost_37 kX5_93 (by decide) rfl (by show _ ≤ 8; simp) (by decide) zsh187 (by decide) rfl (fun v37 M37 q37 => ?_)
        obtain ⟨rfl, rfl⟩ := q37
        try simp only [zpush]
        refine z_goto (tgt := 45) dX5_cost_40 (by decide) ?_
        refine z_iret dX5_cost_45 rfl ?_
        refine ⟨rfl, ?_⟩
        unfold sCost
        congr 2
        repeat' split
        all_goals first | rfl | omega
    · refine z_bipush dX5_cost_21 (by decide) ?_
      refine z_goto (tgt := 45) dX5_cost_23 (by decide) ?_
      refine z_iret dX5_cost_45 rfl ?_
      refine ⟨rfl, ?_⟩
      unfold sCost
      congr 2
      repeat' split
      all_goals first | rfl | omega
  · refine z_iconst dX5_cost_8 ?_
    refine z_goto (tgt := 45) dX5_cost_9 (by decide) ?_
    refine z_iret dX5_cost_45 rfl ?_
    refine ⟨rfl, ?_⟩
    unfold sCost
    congr 2
    repeat' split
    all_goals first | rfl | omega

theorem vX5_does {G : zG} {M : zM} {σ : zS} {k : Int} (hk : -2147483648 ≤ k ∧ k < 2147483648) (hA : zA σ) : zCall G yX5_does YX5_does [.inr (some 187), .inl k] (zt M σ) (fun v M' => zt M σ = M' ∧ v = some (.inl (sDoes σ k))) := by
  refine zEnter (by decide +kernel) rfl (Nat.le_of_ble_eq_true rfl) ?_
  have hI := hA.1
  have hs9 := hI.1
  unfold zIs at hs9
  refine z_aload_n dX5_does_0 rfl ?_
  refine z_iload_n dX5_does_1 rfl ?_
  refine z_callV mX5_isSnail (vX5_isSnail (by omega) hI) rfl dX5_does_2 kX5_63 (by decide) rfl (by show _ ≤ 8; simp) (by decide) zsh187 (by decide) rfl (fun v2 M2 q2 => ?_)
  obtain ⟨rfl, b2, rfl, h2⟩ := q2
  try simp only [zpush]
  refine z_if_ne (tgt := 12) dX5_does_5 (by decide) (by omega) (fun c5 => ?_) (fun c5 => ?_)
  · refine z_aload_n dX5_does_12 rfl ?_
    refine z_iload_n dX5_does_13 rfl ?_
    refine z_callV mX5_creeps (vX5_creeps (by omega) hI) rfl dX5_does_14 kX5_48 (by decide) rfl (by show _ ≤ 8; simp) (by decide) zsh187 (by decide) rfl (fun v14 M14 q14 => ?_)
    obtain ⟨rfl, b14, rfl, h14⟩ := q14
    try simp only [zpush]
    refine z_if_eq (tgt := 28) dX5_does_17 (by decide) (by omega) (fun c17 => ?_) (fun c17 => ?_)
    · refine z_bipush dX5_does_28 (by decide) ?_
      refine z_iret dX5_does_30 rfl ?_
      refine ⟨rfl, ?_⟩
      unfold sDoes
      congr 2
      repeat' split
      all_goals first | rfl | omega
    · refine z_aload_n dX5_does_20 rfl ?_
      refine z_iload_n dX5_does_21 rfl ?_
      refine z_callV mX5_chooses (vX5_chooses hI (by omega)) rfl dX5_does_22 kX5_96 (by decide) rfl (by show _ ≤ 8; simp) (by decide) zsh187 (by decide) rfl (fun v22 M22 q22 => ?_)
      obtain ⟨rfl, rfl⟩ := q22
      try simp only [zpush]
      refine z_goto (tgt := 30) dX5_does_25 (by decide) ?_
      refine z_iret dX5_does_30 rfl ?_
      refine ⟨rfl, ?_⟩
      unfold sDoes
      congr 2
      repeat' split
      all_goals first | rfl | omega
  · refine z_iconst dX5_does_8 ?_
    refine z_goto (tgt := 30) dX5_does_9 (by decide) ?_
    refine z_iret dX5_does_30 rfl ?_
    refine ⟨rfl, ?_⟩
    unfold sDoes
    congr 2
    repeat' split
    all_goals first | rfl | omega

theorem vX5_reason {G : zG} {M : zM} {σ : zS} {k lane row : Int} (hk : -2147483648 ≤ k ∧ k < 2147483648) (hlane : -2147483648 ≤ lane ∧ lane < 2147483648) (hrow : -2147483648 ≤ row ∧ row < 2147483648) (hA : zA σ) : zCall G yX5_reason YX5_reason [.inr (some 187), .inl k, .inl lane, .inl row] (zt M σ) (fun v M' => zt M σ = M' ∧ v = some (.inl (sReason σ k lane row))) := by
  refine zEnter (by decide +kernel) rfl (Nat.le_of_ble_eq_true rfl) ?_
  have hI := hA.1
  have hs9 := hI.1
  unfold zIs at hs9
  refine z_aload_n dX5_reason_0 rfl ?_
  refine z_iload_n dX5_reason_1 rfl ?_
  refine z_callV mX5_isSnail (vX5_isSnail (by omega) hI) rfl dX5_reason_2 kX5_63 (by decide) rfl (by show _ ≤ 8; simp) (by decide) zsh187 (by decide) rfl (fun v2 M2 q2 => ?_)
  obtain ⟨rfl, b2, rfl, h2⟩ := q2
  try simp only [zpush]
  refine z_if_eq (tgt := 16) dX5_reason_5 (by decide) (by omega) (fun c5 => ?_) (fun c5 => ?_)
  · refine z_iconst dX5_reason_16 ?_
    refine z_goto (tgt := 30) dX5_reason_17 (by decide) ?_
    refine z_iret dX5_reason_30 rfl ?_
    refine ⟨rfl, ?_⟩
    unfold sReason
    congr 2
    repeat' split
    all_goals first | rfl | omega
  · refine z_iload_n dX5_reason_8 rfl ?_
    refine z_iload_n dX5_reason_9 rfl ?_
    refine z_callS mX5_isCell (vX5_isCell (by omega) (by omega)) rfl dX5_reason_10 kX5_66 (by decide) rfl (by show _ ≤ 8; simp) (fun v10 M10 q10 => ?_)
    obtain ⟨rfl, b10, rfl, h10⟩ := q10
    try simp only [zpush]
    refine z_if_ne (tgt := 20) dX5_reason_13 (by decide) (by omega) (fun c13 => ?_) (fun c13 => ?_)
    · refine z_aload_n dX5_reason_20 rfl ?_
      refine z_iload_n dX5_reason_21 rfl ?_
      refine z_iload_n dX5_reason_22 rfl ?_
      refine z_iload_n dX5_reason_23 rfl ?_
      refine z_callS mX5_at vX5_at rfl dX5_reason_24 kX5_70 (by decide) rfl (by show _ ≤ 8; simp) (fun v24 M24 q24 => ?_)
      obtain ⟨rfl, rfl⟩ := q24
      try simp only [zpush]
      refine z_callV mX5_why (vX5_why hI (by omega) (by omega)) rfl dX5_reason_27 kX5_90 (by decide) rfl (by show _ ≤ 8; simp) (by decide) zsh187 (by decide) rfl (fun v27 M27 q27 => ?_)
      obtain ⟨rfl, rfl⟩ := q27
      try simp only [zpush]
      refine z_iret dX5_reason_30 rfl ?_
      refine ⟨rfl, ?_⟩
      unfold sReason
      congr 2
      repeat' split
      all_goals first | rfl | omega
    · refine z_iconst dX5_reason_16 ?_
      refine z_goto (tgt := 30) dX5_reason_17 (by decide) ?_
      refine z_iret dX5_reason_30 rfl ?_
      refine ⟨rfl, ?_⟩
      unfold sReason
      congr 2
      repeat' split
      all_goals first | rfl | omega

theorem vX5_owes {G : zG} {M : zM} {σ : zS} {k ow : Int} (hk : -2147483648 ≤ k ∧ k < 2147483648) (how : -2147483648 ≤ ow ∧ ow < 2147483648) (hA : zA σ) : zCall G yX5_owes YX5_owes [.inr (some 187), .inl k, .inl ow] (zt M σ) (fun v M' => zt M σ = M' ∧ v = some (.inl (sOwes σ k ow))) := by
  refine zEnter (by decide +kernel) rfl (Nat.le_of_ble_eq_true rfl) ?_
  have hI := hA.1
  have hs9 := hI.1
  unfold zIs at hs9
  refine z_aload_n dX5_owes_0 rfl ?_
  refine z_iload_n dX5_owes_1 rfl ?_
  refine z_callV mX5_isSnail (vX5_isSnail (by omega) hI) rfl dX5_owes_2 kX5_63 (by decide) rfl (by show _ ≤ 8; simp) (by decide) zsh187 (by decide) rfl (fun v2 M2 q2 => ?_)
  obtain ⟨rfl, b2, rfl, h2⟩ := q2
  try simp only [zpush]
  refine z_if_eq (tgt := 16) dX5_owes_5 (by decide) (by omega) (fun c5 => ?_) (fun c5 => ?_)
  · refine z_iconst dX5_owes_16 ?_
    refine z_goto (tgt := 45) dX5_owes_17 (by decide) ?_
    refine z_iret dX5_owes_45 rfl ?_
    refine ⟨rfl, ?_⟩
    unfold sOwes
    congr 2
    repeat' split
    all_goals first | rfl | omega
  · refine z_aload_n dX5_owes_8 rfl ?_
    refine z_iload_n dX5_owes_9 rfl ?_
    refine z_callV mX5_isSnail (vX5_isSnail (by omega) hI) rfl dX5_owes_10 kX5_63 (by decide) rfl (by show _ ≤ 8; simp) (by decide) zsh187 (by decide) rfl (fun v10 M10 q10 => ?_)
    obtain ⟨rfl, b10, rfl, h10⟩ := q10
    try simp only [zpush]
    refine z_if_ne (tgt := 20) dX5_owes_13 (by decide) (by omega) (fun c13 => ?_) (fun c13 => ?_)
    · refine z_iload_n dX5_owes_20 rfl ?_
      refine z_iload_n dX5_owes_21 rfl ?_
      refine z_icmp_ne (tgt := 30) dX5_owes_22 (by decide) (by omega) (by omega) (fun c22 => ?_) (fun c22 => ?_)
      · refine z_aload_n dX5_owes_30 rfl ?_
        refine z_getR (b := 188) dX5_owes_31 fX5_7 (by decide) zsh187 rfl rfl ?_
        refine z_sipush dX5_owes_34 (by decide) ?_
        refine z_bipush dX5_owes_37 (by decide) ?_
        refine z_iload_n dX5_owes_39 rfl ?_
        refine z_imul dX5_owes_40 ?_
        refine z_iadd dX5_owes_41 ?_
        refine z_iload_n dX5_owes_42 rfl ?_
        refine z_iadd dX5_owes_43 ?_
        refine z_sload dX5_owes_44 (by omega) ?_
        refine z_iret dX5_owes_45 rfl ?_
        refine ⟨rfl, ?_⟩
        unfold sOwes
        congr 2
        repeat' split
        all_goals first | rfl | omega
      · refine z_bipush dX5_owes_25 (by decide) ?_
        refine z_goto (tgt := 45) dX5_owes_27 (by decide) ?_
        refine z_iret dX5_owes_45 rfl ?_
        refine ⟨rfl, ?_⟩
        unfold sOwes
        congr 2
        repeat' split
        all_goals first | rfl | omega
    · refine z_iconst dX5_owes_16 ?_
      refine z_goto (tgt := 45) dX5_owes_17 (by decide) ?_
      refine z_iret dX5_owes_45 rfl ?_
      refine ⟨rfl, ?_⟩
      unfold sOwes
      congr 2
      repeat' split
      all_goals first | rfl | omega

theorem vX5_leader {G : zG} {M : zM} {σ : zS} (hA : zA σ) : zCall G yX5_leader YX5_leader [.inr (some 187)] (zt M σ) (fun v M' => zt M σ = M' ∧ v = some (.inl (sLead σ))) := by
  refine zEnter (by decide +kernel) rfl (Nat.le_of_ble_eq_true rfl) ?_
  have hI := hA.1
  have hs9 := hI.1
  unfold zIs at hs9
  refine z_bipush dX5_leader_0 (by decide) ?_
  refine z_istore_n dX5_leader_2 (by decide) ?_
  refine z_iconst dX5_leader_3 ?_
  refine z_istore_n dX5_leader_4 (by decide) ?_
  have L : ∀ (n : Nat) (k : Int) (f : Int), (0 ≤ k ∧ k ≤ σ 535) → (k + n = σ 535 + 1) → (f = -5 ∨ (0 ≤ f ∧ f < σ 535)) → (zfor (sLeadF σ) k (σ 535) f = sLead σ) → zW G YX5_leader (fun v M' => zt M σ = M' ∧ v = some (.inl (sLead σ))) 5 [(2, .inl k), (1, .inl f), (0, .inr (some 187))] [] (zt M σ) := by
    intro n
    induction n with
    | zero => intro k f hc hcn hf he; exfalso; omega
    | succ n ih =>
      intro k f hc hcn hf he
      refine z_iload_n dX5_leader_5 rfl ?_
      refine z_aload_n dX5_leader_6 rfl ?_
      refine z_getR (b := 188) dX5_leader_7 fX5_7 (by decide) zsh187 rfl rfl ?_
      refine z_sipush dX5_leader_10 (by decide) ?_
      refine z_sload dX5_leader_13 (by omega) ?_
      refine z_icmp_ge (tgt := 115) dX5_leader_14 (by decide) (by omega) (by omega) (fun c14 => ?_) (fun c14 => ?_)
      · rw [zfor_end (by omega)] at he
        refine z_iload_n dX5_leader_115 rfl ?_
        refine z_iret dX5_leader_116 rfl ?_
        exact ⟨rfl, by rw [he]⟩
      · have hk9 := hI.2.2 k (by omega) (by omega)
        unfold zIk at hk9
        have hf9 : f = -5 ∨ zIk σ f := hf.elim Or.inl (fun q => Or.inr (hI.2.2 f q.1 (by omega)))
        unfold zIk at hf9
        rw [zfor_step (by omega)] at he
        refine z_iload_n dX5_leader_17 rfl ?_
        refine z_bipush dX5_leader_18 (by decide) ?_
        refine z_icmp_ne (tgt := 27) dX5_leader_20 (by decide) (by omega) (by omega) (fun c20 => ?_) (fun c20 => ?_)
        · refine z_aload_n dX5_leader_27 rfl ?_
          refine z_getR (b := 188) dX5_leader_28 fX5_7 (by decide) zsh187 rfl rfl ?_
          refine z_iload_n dX5_leader_31 rfl ?_
          refine z_iconst dX5_leader_32 ?_
          refine z_callS mX5_of vX5_of rfl dX5_leader_33 kX5_40 (by decide) rfl (by show _ ≤ 8; simp) (fun v33 M33 q33 => ?_)
          obtain ⟨rfl, rfl⟩ := q33
          try simp only [zpush]
          refine z_sload dX5_leader_36 (by omega) ?_
          refine z_aload_n dX5_leader_37 rfl ?_
          refine z_getR (b := 188) dX5_leader_38 fX5_7 (by decide) zsh187 rfl rfl ?_
          refine z_iload_n dX5_leader_41 rfl ?_
          refine z_iconst dX5_leader_42 ?_
          refine z_callS mX5_of vX5_of rfl dX5_leader_43 kX5_40 (by decide) rfl (by show _ ≤ 8; simp) (fun v43 M43 q43 => ?_)
          obtain ⟨rfl, rfl⟩ := q43
          try simp only [zpush]
          refine z_sload dX5_leader_46 (by omega) ?_
          refine z_isub dX5_leader_47 ?_
          refine z_istore_n dX5_leader_48 (by decide) ?_
          refine z_iload_n dX5_leader_49 rfl ?_
          refine z_bipush dX5_leader_50 (by decide) ?_
          refine z_icmp_ne (tgt := 59) dX5_leader_52 (by decide) (by omega) (by omega) (fun c52 => ?_) (fun c52 => ?_)
          · refine z_aload_n dX5_leader_59 rfl ?_
            refine z_getR (b := 188) dX5_leader_60 fX5_7 (by decide) zsh187 rfl rfl ?_
            refine z_iload_n dX5_leader_63 rfl ?_
            refine z_iconst dX5_leader_64 ?_
            refine z_callS mX5_of vX5_of rfl dX5_leader_65 kX5_40 (by decide) rfl (by show _ ≤ 8; simp) (fun v65 M65 q65 => ?_)
            obtain ⟨rfl, rfl⟩ := q65
            try simp only [zpush]
            refine z_sload dX5_leader_68 (by omega) ?_
            refine z_aload_n dX5_leader_69 rfl ?_
            refine z_getR (b := 188) dX5_leader_70 fX5_7 (by decide) zsh187 rfl rfl ?_
            refine z_iload_n dX5_leader_73 rfl ?_
            refine z_iconst dX5_leader_74 ?_
            refine z_callS mX5_of vX5_of rfl dX5_leader_75 kX5_40 (by decide) rfl (by show _ ≤ 8; simp) (fun v75 M75 q75 => ?_)
            obtain ⟨rfl, rfl⟩ := q75
            try simp only [zpush]
            refine z_sload dX5_leader_78 (by omega) ?_
            refine z_isub dX5_leader_79 ?_
            refine z_istore dX5_leader_80 (by decide) ?_
            refine z_aload_n dX5_leader_82 rfl ?_
            refine z_iload_n dX5_leader_83 rfl ?_
            refine z_callV mX5_creeps (vX5_creeps (by omega) hI) rfl dX5_leader_84 kX5_48 (by decide) rfl (by show _ ≤ 8; simp) (by decide) zsh187 (by decide) rfl (fun v84 M84 q84 => ?_)
            obtain ⟨rfl, b84, rfl, h84⟩ := q84
            try simp only [zpush]
            refine z_if_eq (tgt := 107) dX5_leader_87 (by decide) (by omega) (fun c87 => ?_) (fun c87 => ?_)
            · refine z_iload_n dX5_leader_107 rfl ?_
              refine z_istore_n dX5_leader_108 (by decide) ?_
              refine z_iinc dX5_leader_109 rfl (by decide) ?_
              refine z_goto (tgt := 5) dX5_leader_112 (by decide) ?_
              refine zsub' (ih (k + 1) _ (by omega) (by omega) ?_ ?_) ⟨rfl, rfl, rfl, trivial⟩
              · omega
              · (rw [← he]; congr 1; unfold sLeadF; split <;> first | rfl | omega)
            · refine z_iload_n dX5_leader_90 rfl ?_
              refine z_if_gt (tgt := 103) dX5_leader_91 (by decide) (by omega) (fun c91 => ?_) (fun c91 => ?_)
              · refine z_iload_n dX5_leader_103 rfl ?_
                refine z_goto (tgt := 108) dX5_leader_104 (by decide) ?_
                refine z_istore_n dX5_leader_108 (by decide) ?_
                refine z_iinc dX5_leader_109 rfl (by decide) ?_
                refine z_goto (tgt := 5) dX5_leader_112 (by decide) ?_
                refine zsub' (ih (k + 1) _ (by omega) (by omega) ?_ ?_) ⟨rfl, rfl, rfl, trivial⟩
                · omega
                · (rw [← he]; congr 1; unfold sLeadF; split <;> first | rfl | omega)
              · refine z_iload_n dX5_leader_94 rfl ?_
                refine z_if_ne (tgt := 107) dX5_leader_95 (by decide) (by omega) (fun c95 => ?_) (fun c95 => ?_)
                · refine z_iload_n dX5_leader_107 rfl ?_
                  refine z_istore_n dX5_leader_108 (by decide) ?_
                  refine z_iinc dX5_leader_109 rfl (by decide) ?_
                  refine z_goto (tgt := 5) dX5_leader_112 (by decide) ?_
                  refine zsub' (ih (k + 1) _ (by omega) (by omega) ?_ ?_) ⟨rfl, rfl, rfl, trivial⟩
                  · omega
                  · (rw [← he]; congr 1; unfold sLeadF; split <;> first | rfl | omega)
                · refine z_iload dX5_leader_98 rfl ?_
                  refine z_if_le (tgt := 107) dX5_leader_100 (by decide) (by omega) (fun c100 => ?_) (fun c100 => ?_)
                  · refine z_iload_n dX5_leader_107 rfl ?_
                    refine z_istore_n dX5_leader_108 (by decide) ?_
                    refine z_iinc dX5_leader_109 rfl (by decide) ?_
                    refine z_goto (tgt := 5) dX5_leader_112 (by decide) ?_
                    refine zsub' (ih (k + 1) _ (by omega) (by omega) ?_ ?_) ⟨rfl, rfl, rfl, trivial⟩
                    · omega
                    · (rw [← he]; congr 1; unfold sLeadF; split <;> first | rfl | omega)
                  · refine z_iload_n dX5_leader_103 rfl ?_
                    refine z_goto (tgt := 108) dX5_leader_104 (by decide) ?_
                    refine z_istore_n dX5_leader_108 (by decide) ?_
                    refine z_iinc dX5_leader_109 rfl (by decide) ?_
                    refine z_goto (tgt := 5) dX5_leader_112 (by decide) ?_
                    refine zsub' (ih (k + 1) _ (by omega) (by omega) ?_ ?_) ⟨rfl, rfl, rfl, trivial⟩
                    · omega
                    · (rw [← he]; congr 1; unfold sLeadF; split <;> first | rfl | omega)
          · refine z_iconst dX5_leader_55 ?_
            refine z_goto (tgt := 80) dX5_leader_56 (by decide) ?_
            refine z_istore dX5_leader_80 (by decide) ?_
            refine z_aload_n dX5_leader_82 rfl ?_
            refine z_iload_n dX5_leader_83 rfl ?_
            refine z_callV mX5_creeps (vX5_creeps (by omega) hI) rfl dX5_leader_84 kX5_48 (by decide) rfl (by show _ ≤ 8; simp) (by decide) zsh187 (by decide) rfl (fun v84 M84 q84 => ?_)
            obtain ⟨rfl, b84, rfl, h84⟩ := q84
            try simp only [zpush]
            refine z_if_eq (tgt := 107) dX5_leader_87 (by decide) (by omega) (fun c87 => ?_) (fun c87 => ?_)
            · refine z_iload_n dX5_leader_107 rfl ?_
              refine z_istore_n dX5_leader_108 (by decide) ?_
              refine z_iinc dX5_leader_109 rfl (by decide) ?_
              refine z_goto (tgt := 5) dX5_leader_112 (by decide) ?_
              refine zsub' (ih (k + 1) _ (by omega) (by omega) ?_ ?_) ⟨rfl, rfl, rfl, trivial⟩
              · omega
              · (rw [← he]; congr 1; unfold sLeadF; split <;> first | rfl | omega)
            · refine z_iload_n dX5_leader_90 rfl ?_
              refine z_if_gt (tgt := 103) dX5_leader_91 (by decide) (by omega) (fun c91 => ?_) (fun c91 => ?_)
              · refine z_iload_n dX5_leader_103 rfl ?_
                refine z_goto (tgt := 108) dX5_leader_104 (by decide) ?_
                refine z_istore_n dX5_leader_108 (by decide) ?_
                refine z_iinc dX5_leader_109 rfl (by decide) ?_
                refine z_goto (tgt := 5) dX5_leader_112 (by decide) ?_
                refine zsub' (ih (k + 1) _ (by omega) (by omega) ?_ ?_) ⟨rfl, rfl, rfl, trivial⟩
                · omega
                · (rw [← he]; congr 1; unfold sLeadF; split <;> first | rfl | omega)
              · refine z_iload_n dX5_leader_94 rfl ?_
                refine z_if_ne (tgt := 107) dX5_leader_95 (by decide) (by omega) (fun c95 => ?_) (fun c95 => ?_)
                · refine z_iload_n dX5_leader_107 rfl ?_
                  refine z_istore_n dX5_leader_108 (by decide) ?_
                  refine z_iinc dX5_leader_109 rfl (by decide) ?_
                  refine z_goto (tgt := 5) dX5_leader_112 (by decide) ?_
                  refine zsub' (ih (k + 1) _ (by omega) (by omega) ?_ ?_) ⟨rfl, rfl, rfl, trivial⟩
                  · omega
                  · (rw [← he]; congr 1; unfold sLeadF; split <;> first | rfl | omega)
                · refine z_iload dX5_leader_98 rfl ?_
                  refine z_if_le (tgt := 107) dX5_leader_100 (by decide) (by decide) (fun h => absurd h (by decide)) (fun _ => ?_)
                  refine z_iload_n dX5_leader_103 rfl ?_
                  refine z_goto (tgt := 108) dX5_leader_104 (by decide) ?_
                  refine z_istore_n dX5_leader_108 (by decide) ?_
                  refine z_iinc dX5_leader_109 rfl (by decide) ?_
                  refine z_goto (tgt := 5) dX5_leader_112 (by decide) ?_
                  refine zsub' (ih (k + 1) _ (by omega) (by omega) ?_ ?_) ⟨rfl, rfl, rfl, trivial⟩
                  · omega
                  · (rw [← he]; congr 1; unfold sLeadF; split <;> first | rfl | omega)
        · refine z_iconst dX5_leader_23 ?_
          refine z_goto (tgt := 48) dX5_leader_24 (by decide) ?_
          refine z_istore_n dX5_leader_48 (by decide) ?_
          refine z_iload_n dX5_leader_49 rfl ?_
          refine z_bipush dX5_leader_50 (by decide) ?_
          refine z_icmp_ne (tgt := 59) dX5_leader_52 (by decide) (by omega) (by omega) (fun c52 => ?_) (fun c52 => ?_)
          · refine z_aload_n dX5_leader_59 rfl ?_
            refine z_getR (b := 188) dX5_leader_60 fX5_7 (by decide) zsh187 rfl rfl ?_
            refine z_iload_n dX5_leader_63 rfl ?_
            refine z_iconst dX5_leader_64 ?_
            refine z_callS mX5_of vX5_of rfl dX5_leader_65 kX5_40 (by decide) rfl (by show _ ≤ 8; simp) (fun v65 M65 q65 => ?_)
            obtain ⟨rfl, rfl⟩ := q65
            try simp only [zpush]
            refine z_sload dX5_leader_68 (by omega) ?_
            refine z_aload_n dX5_leader_69 rfl ?_
            refine z_getR (b := 188) dX5_leader_70 fX5_7 (by decide) zsh187 rfl rfl ?_
            refine z_iload_n dX5_leader_73 rfl ?_
            refine z_iconst dX5_leader_74 ?_
            refine z_callS mX5_of vX5_of rfl dX5_leader_75 kX5_40 (by decide) rfl (by show _ ≤ 8; simp) (fun v75 M75 q75 => ?_)
            obtain ⟨rfl, rfl⟩ := q75
            try simp only [zpush]
            refine z_sload dX5_leader_78 (by omega) ?_
            refine z_isub dX5_leader_79 ?_
            refine z_istore dX5_leader_80 (by decide) ?_
            refine z_aload_n dX5_leader_82 rfl ?_
            refine z_iload_n dX5_leader_83 rfl ?_
            refine z_callV mX5_creeps (vX5_creeps (by omega) hI) rfl dX5_leader_84 kX5_48 (by decide) rfl (by show _ ≤ 8; simp) (by decide) zsh187 (by decide) rfl (fun v84 M84 q84 => ?_)
            obtain ⟨rfl, b84, rfl, h84⟩ := q84
            try simp only [zpush]
            refine z_if_eq (tgt := 107) dX5_leader_87 (by decide) (by omega) (fun c87 => ?_) (fun c87 => ?_)
            · refine z_iload_n dX5_leader_107 rfl ?_
              refine z_istore_n dX5_leader_108 (by decide) ?_
              refine z_iinc dX5_leader_109 rfl (by decide) ?_
              refine z_goto (tgt := 5) dX5_leader_112 (by decide) ?_
              refine zsub' (ih (k + 1) _ (by omega) (by omega) ?_ ?_) ⟨rfl, rfl, rfl, trivial⟩
              · omega
              · (rw [← he]; congr 1; unfold sLeadF; split <;> first | rfl | omega)
            · refine z_iload_n dX5_leader_90 rfl ?_
              refine z_if_gt (tgt := 103) dX5_leader_91 (by decide) (by decide) (fun _ => ?_) (fun h => absurd h (by decide))
              refine z_iload_n dX5_leader_103 rfl ?_
              refine z_goto (tgt := 108) dX5_leader_104 (by decide) ?_
              refine z_istore_n dX5_leader_108 (by decide) ?_
              refine z_iinc dX5_leader_109 rfl (by decide) ?_
              refine z_goto (tgt := 5) dX5_leader_112 (by decide) ?_
              refine zsub' (ih (k + 1) _ (by omega) (by omega) ?_ ?_) ⟨rfl, rfl, rfl, trivial⟩
              · omega
              · (rw [← he]; congr 1; unfold sLeadF; split <;> first | rfl | omega)
          · refine z_iconst dX5_leader_55 ?_
            refine z_goto (tgt := 80) dX5_leader_56 (by decide) ?_
            refine z_istore dX5_leader_80 (by decide) ?_
            refine z_aload_n dX5_leader_82 rfl ?_
            refine z_iload_n dX5_leader_83 rfl ?_
            refine z_callV mX5_creeps (vX5_creeps (by omega) hI) rfl dX5_leader_84 kX5_48 (by decide) rfl (by show _ ≤ 8; simp) (by decide) zsh187 (by decide) rfl (fun v84 M84 q84 => ?_)
            obtain ⟨rfl, b84, rfl, h84⟩ := q84
            try simp only [zpush]
            refine z_if_eq (tgt := 107) dX5_leader_87 (by decide) (by omega) (fun c87 => ?_) (fun c87 => ?_)
            · refine z_iload_n dX5_leader_107 rfl ?_
              refine z_istore_n dX5_leader_108 (by decide) ?_
              refine z_iinc dX5_leader_109 rfl (by decide) ?_
              refine z_goto (tgt := 5) dX5_leader_112 (by decide) ?_
              refine zsub' (ih (k + 1) _ (by omega) (by omega) ?_ ?_) ⟨rfl, rfl, rfl, trivial⟩
              · omega
              · (rw [← he]; congr 1; unfold sLeadF; split <;> first | rfl | omega)
            · refine z_iload_n dX5_leader_90 rfl ?_
              refine z_if_gt (tgt := 103) dX5_leader_91 (by decide) (by decide) (fun _ => ?_) (fun h => absurd h (by decide))
              refine z_iload_n dX5_leader_103 rfl ?_
              refine z_goto (tgt := 108) dX5_leader_104 (by decide) ?_
              refine z_istore_n dX5_leader_108 (by decide) ?_
              refine z_iinc dX5_leader_109 rfl (by decide) ?_
              refine z_goto (tgt := 5) dX5_leader_112 (by decide) ?_
              refine zsub' (ih (k + 1) _ (by omega) (by omega) ?_ ?_) ⟨rfl, rfl, rfl, trivial⟩
              · omega
              · (rw [← he]; congr 1; unfold sLeadF; split <;> first | rfl | omega)
  exact zsub' (L (σ 535 + 1).toNat 0 (-5) (by omega) (by omega) (by omega) rfl) ⟨rfl, rfl, rfl, trivial⟩

theorem vX5_inState {G : zG} {M : zM} {σ : zS} {w : Int} (hw : 0 ≤ w ∧ w ≤ 2) (hA : zA σ) : zCall G yX5_inState YX5_inState [.inr (some 187), .inl w] (zt M σ) (fun v M' => zt M σ = M' ∧ v = some (.inl (sIn σ w))) := by
  refine zEnter (by decide +kernel) rfl (Nat.le_of_ble_eq_true rfl) ?_
  have hI := hA.1
  have hs9 := hI.1
  unfold zIs at hs9
  refine z_iconst dX5_inState_0 ?_
  refine z_istore_n dX5_inState_1 (by decide) ?_
  refine z_iconst dX5_inState_2 ?_
  refine z_istore_n dX5_inState_3 (by decide) ?_
  have L : ∀ (n : Nat) (c : Int) (x : Int), (0 ≤ c ∧ c ≤ σ 535) → (c + n = σ 535 + 1) → (zfor (fun k n => n + if σ (360 + 10 * k + 3) = w then 1 else 0) c (σ 535) x = sIn σ w) → zW G YX5_inState (fun v M' => zt M σ = M' ∧ v = some (.inl (sIn σ w))) 4 [(3, .inl c), (2, .inl x), (0, .inr (some 187)), (1, .inl w)] [] (zt M σ) := by
    intro n
    induction n with
    | zero => intro c x hc hcn he; exfalso; omega
    | succ n ih =>
      intro c x hc hcn he
      refine z_iload_n dX5_inState_4 rfl ?_
      refine z_aload_n dX5_inState_5 rfl ?_
      refine z_getR (b := 188) dX5_inState_6 fX5_7 (by decide) zsh187 rfl rfl ?_
      refine z_sipush dX5_inState_9 (by decide) ?_
      refine z_sload dX5_inState_12 (by omega) ?_
      refine z_icmp_ge (tgt := 44) dX5_inState_13 (by decide) (by omega) (by omega) (fun c13 => ?_) (fun c13 => ?_)
      · rw [zfor_end (by omega)] at he
        refine z_iload_n dX5_inState_44 rfl ?_
        refine z_iret dX5_inState_45 rfl ?_
        exact ⟨rfl, by rw [he]⟩
      · have hk9 := hI.2.2 c (by omega) (by omega)
        unfold zIk at hk9
        refine z_iload_n dX5_inState_16 rfl ?_
        refine z_aload_n dX5_inState_17 rfl ?_
        refine z_getR (b := 188) dX5_inState_18 fX5_7 (by decide) zsh187 rfl rfl ?_
        refine z_iload_n dX5_inState_21 rfl ?_
        refine z_iconst dX5_inState_22 ?_
        refine z_callS mX5_of vX5_of rfl dX5_inState_23 kX5_40 (by decide) rfl (by show _ ≤ 8; simp) (fun v23 M23 q23 => ?_)
        obtain ⟨rfl, rfl⟩ := q23
        try simp only [zpush]
        refine z_sload dX5_inState_26 (by omega) ?_
        refine z_iload_n dX5_inState_27 rfl ?_
        refine z_icmp_ne (tgt := 35) dX5_inState_28 (by decide) (by omega) (by omega) (fun c28 => ?_) (fun c28 => ?_)
        · refine z_iconst dX5_inState_35 ?_
          refine z_iadd dX5_inState_36 ?_
          refine z_istore_n dX5_inState_37 (by decide) ?_
          refine z_iinc dX5_inState_38 rfl (by decide) ?_
          refine z_goto (tgt := 4) dX5_inState_41 (by decide) ?_
          rw [zfor_step (by omega)] at he
          first | (rw [if_pos (by omega)] at he; exact zsub' (ih (c + 1) _ (by omega) (by omega) he) ⟨rfl, rfl, rfl, rfl, trivial⟩) | (rw [if_neg (by omega)] at he; exact zsub' (ih (c + 1) _ (by omega) (by omega) he) ⟨rfl, rfl, rfl, rfl, trivial⟩) | exact zsub' (ih (c + 1) _ (by omega) (by omega) he) ⟨rfl, rfl, rfl, rfl, trivial⟩
        · refine z_iconst dX5_inState_31 ?_
          refine z_goto (tgt := 36) dX5_inState_32 (by decide) ?_
          refine z_iadd dX5_inState_36 ?_
          refine z_istore_n dX5_inState_37 (by decide) ?_
          refine z_iinc dX5_inState_38 rfl (by decide) ?_
          refine z_goto (tgt := 4) dX5_inState_41 (by decide) ?_
          rw [zfor_step (by omega)] at he
          first | (rw [if_pos (by omega)] at he; exact zsub' (ih (c + 1) _ (by omega) (by omega) he) ⟨rfl, rfl, rfl, rfl, trivial⟩) | (rw [if_neg (by omega)] at he; exact zsub' (ih (c + 1) _ (by omega) (by omega) he) ⟨rfl, rfl, rfl, rfl, trivial⟩) | exact zsub' (ih (c + 1) _ (by omega) (by omega) he) ⟨rfl, rfl, rfl, rfl, trivial⟩
  exact zsub' (L (σ 535 + 1).toNat 0 0 (by omega) (by omega) rfl) ⟨rfl, rfl, rfl, rfl, trivial⟩

theorem vX5_ofAll {G : zG} {M : zM} {σ : zS} {w : Int} (hw : 0 ≤ w ∧ w ≤ 9) (hA : zA σ) : zCall G yX5_ofAll YX5_ofAll [.inr (some 187), .inl w] (zt M σ) (fun v M' => zt M σ = M' ∧ v = some (.inl (sOf σ w))) := by
  refine zEnter (by decide +kernel) rfl (Nat.le_of_ble_eq_true rfl) ?_
  have hI := hA.1
  have hs9 := hI.1
  unfold zIs at hs9
  refine z_iconst dX5_ofAll_0 ?_
  refine z_istore_n dX5_ofAll_1 (by decide) ?_
  refine z_iconst dX5_ofAll_2 ?_
  refine z_istore_n dX5_ofAll_3 (by decide) ?_
  have L : ∀ (n : Nat) (c : Int) (x : Int), (0 ≤ c ∧ c ≤ σ 535) → (c + n = σ 535 + 1) → (zfor (fun k n => n + σ (360 + 10 * k + w)) c (σ 535) x = sOf σ w) → zW G YX5_ofAll (fun v M' => zt M σ = M' ∧ v = some (.inl (sOf σ w))) 4 [(3, .inl c), (2, .inl x), (0, .inr (some 187)), (1, .inl w)] [] (zt M σ) := by
    intro n
    induction n with
    | zero => intro c x hc hcn he; exfalso; omega
    | succ n ih =>
      intro c x hc hcn he
      refine z_iload_n dX5_ofAll_4 rfl ?_
      refine z_aload_n dX5_ofAll_5 rfl ?_
      refine z_getR (b := 188) dX5_ofAll_6 fX5_7 (by decide) zsh187 rfl rfl ?_
      refine z_sipush dX5_ofAll_9 (by decide) ?_
      refine z_sload dX5_ofAll_12 (by omega) ?_
      refine z_icmp_ge (tgt := 35) dX5_ofAll_13 (by decide) (by omega) (by omega) (fun c13 => ?_) (fun c13 => ?_)
      · rw [zfor_end (by omega)] at he
        refine z_iload_n dX5_ofAll_35 rfl ?_
        refine z_iret dX5_ofAll_36 rfl ?_
        exact ⟨rfl, by rw [he]⟩
      · have hk9 := hI.2.2 c (by omega) (by omega)
        unfold zIk at hk9
        refine z_iload_n dX5_ofAll_16 rfl ?_
        refine z_aload_n dX5_ofAll_17 rfl ?_
        refine z_getR (b := 188) dX5_ofAll_18 fX5_7 (by decide) zsh187 rfl rfl ?_
        refine z_iload_n dX5_ofAll_21 rfl ?_
        refine z_iload_n dX5_ofAll_22 rfl ?_
        refine z_callS mX5_of vX5_of rfl dX5_ofAll_23 kX5_40 (by decide) rfl (by show _ ≤ 8; simp) (fun v23 M23 q23 => ?_)
        obtain ⟨rfl, rfl⟩ := q23
        try simp only [zpush]
        refine z_sload dX5_ofAll_26 (by omega) ?_
        refine z_iadd dX5_ofAll_27 ?_
        refine z_istore_n dX5_ofAll_28 (by decide) ?_
        refine z_iinc dX5_ofAll_29 rfl (by decide) ?_
        refine z_goto (tgt := 4) dX5_ofAll_32 (by decide) ?_
        rw [zfor_step (by omega)] at he
        first | (rw [if_pos (by omega)] at he; exact zsub' (ih (c + 1) _ (by omega) (by omega) he) ⟨rfl, rfl, rfl, rfl, trivial⟩) | (rw [if_neg (by omega)] at he; exact zsub' (ih (c + 1) _ (by omega) (by omega) he) ⟨rfl, rfl, rfl, rfl, trivial⟩) | exact zsub' (ih (c + 1) _ (by omega) (by omega) he) ⟨rfl, rfl, rfl, rfl, trivial⟩
  exact zsub' (L (σ 535 + 1).toNat 0 0 (by omega) (by omega) rfl) ⟨rfl, rfl, rfl, rfl, trivial⟩

theorem vX5_trails {G : zG} {M : zM} {σ : zS} (hA : zA σ) : zCall G yX5_trails YX5_trails [.inr (some 187)] (zt M σ) (fun v M' => zt M σ = M' ∧ v = some (.inl (sTrl σ))) := by
  refine zEnter (by decide +kernel) rfl (Nat.le_of_ble_eq_true rfl) ?_
  have hI := hA.1
  have hs9 := hI.1
  unfold zIs at hs9
  refine z_iconst dX5_trails_0 ?_
  refine z_istore_n dX5_trails_1 (by decide) ?_
  refine z_iconst dX5_trails_2 ?_
  refine z_istore_n dX5_trails_3 (by decide) ?_
  have L : ∀ (n : Nat) (c : Int) (x : Int), (0 ≤ c ∧ c ≤ (120 : Int)) → (c + n = (120 : Int) + 1) → (zfor (fun c n => n + if σ (120 + c) > 0 then 1 else 0) c ((120 : Int)) x = sTrl σ) → zW G YX5_trails (fun v M' => zt M σ = M' ∧ v = some (.inl (sTrl σ))) 4 [(2, .inl c), (1, .inl x), (0, .inr (some 187))] [] (zt M σ) := by
    intro n
    induction n with
    | zero => intro c x hc hcn he; exfalso; omega
    | succ n ih =>
      intro c x hc hcn he
      refine z_iload_n dX5_trails_4 rfl ?_
      refine z_bipush dX5_trails_5 (by decide) ?_
      refine z_icmp_ge (tgt := 36) dX5_trails_7 (by decide) (by omega) (by omega) (fun c7 => ?_) (fun c7 => ?_)
      · rw [zfor_end (by omega)] at he
        refine z_iload_n dX5_trails_36 rfl ?_
        refine z_iret dX5_trails_37 rfl ?_
        exact ⟨rfl, by rw [he]⟩
      · have hc9 := hI.2.1 c (by omega) (by omega)
        unfold zIc at hc9
        refine z_iload_n dX5_trails_10 rfl ?_
        refine z_aload_n dX5_trails_11 rfl ?_
        refine z_getR (b := 188) dX5_trails_12 fX5_7 (by decide) zsh187 rfl rfl ?_
        refine z_bipush dX5_trails_15 (by decide) ?_
        refine z_iload_n dX5_trails_17 rfl ?_
        refine z_iadd dX5_trails_18 ?_
        refine z_sload dX5_trails_19 (by omega) ?_
        refine z_if_le (tgt := 27) dX5_trails_20 (by decide) (by omega) (fun c20 => ?_) (fun c20 => ?_)
        · refine z_iconst dX5_trails_27 ?_
          refine z_iadd dX5_trails_28 ?_
          refine z_istore_n dX5_trails_29 (by decide) ?_
          refine z_iinc dX5_trails_30 rfl (by decide) ?_
          refine z_goto (tgt := 4) dX5_trails_33 (by decide) ?_
          rw [zfor_step (by omega)] at he
          first | (rw [if_pos (by omega)] at he; exact zsub' (ih (c + 1) _ (by omega) (by omega) he) ⟨rfl, rfl, rfl, trivial⟩) | (rw [if_neg (by omega)] at he; exact zsub' (ih (c + 1) _ (by omega) (by omega) he) ⟨rfl, rfl, rfl, trivial⟩) | exact zsub' (ih (c + 1) _ (by omega) (by omega) he) ⟨rfl, rfl, rfl, trivial⟩
        · refine z_iconst dX5_trails_23 ?_
          refine z_goto (tgt := 28) dX5_trails_24 (by decide) ?_
          refine z_iadd dX5_trails_28 ?_
          refine z_istore_n dX5_trails_29 (by decide) ?_
          refine z_iinc dX5_trails_30 rfl (by decide) ?_
          refine z_goto (tgt := 4) dX5_trails_33 (by decide) ?_
          rw [zfor_step (by omega)] at he
          first | (rw [if_pos (by omega)] at he; exact zsub' (ih (c + 1) _ (by omega) (by omega) he) ⟨rfl, rfl, rfl, trivial⟩) | (rw [if_neg (by omega)] at he; exact zsub' (ih (c + 1) _ (by omega) (by omega) he) ⟨rfl, rfl, rfl, trivial⟩) | exact zsub' (ih (c + 1) _ (by omega) (by omega) he) ⟨rfl, rfl, rfl, trivial⟩
  exact zsub' (L ((120 : Int) + 1).toNat 0 0 (by omega) (by omega) rfl) ⟨rfl, rfl, rfl, trivial⟩

theorem vX5_frost {G : zG} {M : zM} {σ : zS} (hA : zA σ) : zCall G yX5_frost YX5_frost [.inr (some 187)] (zt M σ) (fun v M' => zt M σ = M' ∧ v = some (.inl (sFro σ))) := by
  refine zEnter (by decide +kernel) rfl (Nat.le_of_ble_eq_true rfl) ?_
  have hI := hA.1
  have hs9 := hI.1
  unfold zIs at hs9
  refine z_iconst dX5_frost_0 ?_
  refine z_istore_n dX5_frost_1 (by decide) ?_
  refine z_iconst dX5_frost_2 ?_
  refine z_istore_n dX5_frost_3 (by decide) ?_
  have L : ∀ (n : Nat) (c : Int) (x : Int), (0 ≤ c ∧ c ≤ (120 : Int)) → (c + n = (120 : Int) + 1) → (zfor (fun c n => n + σ c) c ((120 : Int)) x = sFro σ) → zW G YX5_frost (fun v M' => zt M σ = M' ∧ v = some (.inl (sFro σ))) 4 [(2, .inl c), (1, .inl x), (0, .inr (some 187))] [] (zt M σ) := by
    intro n
    induction n with
    | zero => intro c x hc hcn he; exfalso; omega
    | succ n ih =>
      intro c x hc hcn he
      refine z_iload_n dX5_frost_4 rfl ?_
      refine z_bipush dX5_frost_5 (by decide) ?_
      refine z_icmp_ge (tgt := 27) dX5_frost_7 (by decide) (by omega) (by omega) (fun c7 => ?_) (fun c7 => ?_)
      · rw [zfor_end (by omega)] at he
        refine z_iload_n dX5_frost_27 rfl ?_
        refine z_iret dX5_frost_28 rfl ?_
        exact ⟨rfl, by rw [he]⟩
      · have hc9 := hI.2.1 c (by omega) (by omega)
        unfold zIc at hc9
        refine z_iload_n dX5_frost_10 rfl ?_
        refine z_aload_n dX5_frost_11 rfl ?_
        refine z_getR (b := 188) dX5_frost_12 fX5_7 (by decide) zsh187 rfl rfl ?_
        refine z_iconst dX5_frost_15 ?_
        refine z_iload_n dX5_frost_16 rfl ?_
        refine z_iadd dX5_frost_17 ?_
        refine z_sload dX5_frost_18 (by omega) ?_
        rw [Int.zero_add]
        refine z_iadd dX5_frost_19 ?_
        refine z_istore_n dX5_frost_20 (by decide) ?_
        refine z_iinc dX5_frost_21 rfl (by decide) ?_
        refine z_goto (tgt := 4) dX5_frost_24 (by decide) ?_
        rw [zfor_step (by omega)] at he
        first | (rw [if_pos (by omega)] at he; exact zsub' (ih (c + 1) _ (by omega) (by omega) he) ⟨rfl, rfl, rfl, trivial⟩) | (rw [if_neg (by omega)] at he; exact zsub' (ih (c + 1) _ (by omega) (by omega) he) ⟨rfl, rfl, rfl, trivial⟩) | exact zsub' (ih (c + 1) _ (by omega) (by omega) he) ⟨rfl, rfl, rfl, trivial⟩
  exact zsub' (L ((120 : Int) + 1).toNat 0 0 (by omega) (by omega) rfl) ⟨rfl, rfl, rfl, trivial⟩

theorem vX5_count {G : zG} {M : zM} {σ : zS} {w : Int} (hw : -2147483648 ≤ w ∧ w < 2147483648) (hA : zA σ) : zCall G yX5_count YX5_count [.inr (some 187), .inl w] (zt M σ) (fun v M' => zt M σ = M' ∧ v = some (.inl (sCount σ (M 187 3) (M 187 7) w))) := by
  refine zEnter (by decide +kernel) rfl (Nat.le_of_ble_eq_true rfl) ?_
  have hI := hA.1
  have hs9 := hI.1
  unfold zIs at hs9
  refine z_iload_n dX5_count_0 rfl ?_
  rcases (show w = 0 ∨ w = 1 ∨ w = 2 ∨ w = 3 ∨ w = 4 ∨ w = 5 ∨ w = 6 ∨ w = 7 ∨ w = 8 ∨ w = 9 ∨ w = 10 ∨ w = 11 ∨ w = 12 ∨ w = 13 ∨ w = 14 ∨ (w < 0 ∨ 14 < w) by omega) with h1 | h1 | h1 | h1 | h1 | h1 | h1 | h1 | h1 | h1 | h1 | h1 | h1 | h1 | h1 | h1
  · refine z_tabIn (off := 75) (tgt := 76) dX5_count_1 (by omega) (by omega) (by rw [h1]; rfl) (by decide) ?_
    refine z_aload_n dX5_count_76 rfl ?_
    refine z_getR (b := 188) dX5_count_77 fX5_7 (by decide) zsh187 rfl rfl ?_
    refine z_sipush dX5_count_80 (by decide) ?_
    refine z_sload dX5_count_83 (by omega) ?_
    refine z_iret dX5_count_84 rfl ?_
    refine ⟨rfl, ?_⟩
    first
      | (subst h1; rfl)
      | (unfold sCount; rw [if_neg (by omega), if_neg (by omega), if_neg (by omega), if_neg (by omega), if_neg (by omega), if_neg (by omega), if_neg (by omega), if_neg (by omega), if_neg (by omega), if_neg (by omega), if_neg (by omega), if_neg (by omega)])
  · refine z_tabIn (off := 84) (tgt := 85) dX5_count_1 (by omega) (by omega) (by rw [h1]; rfl) (by decide) ?_
    refine z_aload_n dX5_count_85 rfl ?_
    refine z_getR (b := 188) dX5_count_86 fX5_7 (by decide) zsh187 rfl rfl ?_
    refine z_sipush dX5_count_89 (by decide) ?_
    refine z_sload dX5_count_92 (by omega) ?_
    refine z_iret dX5_count_93 rfl ?_
    refine ⟨rfl, ?_⟩
    first
      | (subst h1; rfl)
      | (unfold sCount; rw [if_neg (by omega), if_neg (by omega), if_neg (by omega), if_neg (by omega), if_neg (by omega), if_neg (by omega), if_neg (by omega), if_neg (by omega), if_neg (by omega), if_neg (by omega), if_neg (by omega), if_neg (by omega)])
  · refine z_tabIn (off := 93) (tgt := 94) dX5_count_1 (by omega) (by omega) (by rw [h1]; rfl) (by decide) ?_
    refine z_aload_n dX5_count_94 rfl ?_
    refine z_iload_n dX5_count_95 rfl ?_
    refine z_iconst dX5_count_96 ?_
    refine z_isub dX5_count_97 ?_
    refine z_callV mX5_inState (vX5_inState (by omega) hA) rfl dX5_count_98 kX5_176 (by decide) rfl (by show _ ≤ 8; simp) (by decide) zsh187 (by decide) rfl (fun v98 M98 q98 => ?_)
    obtain ⟨rfl, rfl⟩ := q98
    try simp only [zpush]
    refine z_iret dX5_count_101 rfl ?_
    refine ⟨rfl, ?_⟩
    first
      | (subst h1; rfl)
      | (unfold sCount; rw [if_neg (by omega), if_neg (by omega), if_neg (by omega), if_neg (by omega), if_neg (by omega), if_neg (by omega), if_neg (by omega), if_neg (by omega), if_neg (by omega), if_neg (by omega), if_neg (by omega), if_neg (by omega)])
  · refine z_tabIn (off := 93) (tgt := 94) dX5_count_1 (by omega) (by omega) (by rw [h1]; rfl) (by decide) ?_
    refine z_aload_n dX5_count_94 rfl ?_
    refine z_iload_n dX5_count_95 rfl ?_
    refine z_iconst dX5_count_96 ?_
    refine z_isub dX5_count_97 ?_
    refine z_callV mX5_inState (vX5_inState (by omega) hA) rfl dX5_count_98 kX5_176 (by decide) rfl (by show _ ≤ 8; simp) (by decide) zsh187 (by decide) rfl (fun v98 M98 q98 => ?_)
    obtain ⟨rfl, rfl⟩ := q98
    try simp only [zpush]
    refine z_iret dX5_count_101 rfl ?_
    refine ⟨rfl, ?_⟩
    first
      | (subst h1; rfl)
      | (unfold sCount; rw [if_neg (by omega), if_neg (by omega), if_neg (by omega), if_neg (by omega), if_neg (by omega), if_neg (by omega), if_neg (by omega), if_neg (by omega), if_neg (by omega), if_neg (by omega), if_neg (by omega), if_neg (by omega)])
  · refine z_tabIn (off := 101) (tgt := 102) dX5_count_1 (by omega) (by omega) (by rw [h1]; rfl) (by decide) ?_
    refine z_aload_n dX5_count_102 rfl ?_
    refine z_callV mX5_trails (vX5_trails hA) rfl dX5_count_103 kX5_179 (by decide) rfl (by show _ ≤ 8; simp) (by decide) zsh187 (by decide) rfl (fun v103 M103 q103 => ?_)
    obtain ⟨rfl, rfl⟩ := q103
    try simp only [zpush]
    refine z_iret dX5_count_106 rfl ?_
    refine ⟨rfl, ?_⟩
    first
      | (subst h1; rfl)
      | (unfold sCount; rw [if_neg (by omega), if_neg (by omega), if_neg (by omega), if_neg (by omega), if_neg (by omega), if_neg (by omega), if_neg (by omega), if_neg (by omega), if_neg (by omega), if_neg (by omega), if_neg (by omega), if_neg (by omega)])
  · refine z_tabIn (off := 106) (tgt := 107) dX5_count_1 (by omega) (by omega) (by rw [h1]; rfl) (by decide) ?_
    refine z_aload_n dX5_count_107 rfl ?_
    refine z_callV mX5_frost (vX5_frost hA) rfl dX5_count_108 kX5_182 (by decide) rfl (by show _ ≤ 8; simp) (by decide) zsh187 (by decide) rfl (fun v108 M108 q108 => ?_)
    obtain ⟨rfl, rfl⟩ := q108
    try simp only [zpush]
    refine z_iret dX5_count_111 rfl ?_
    refine ⟨rfl, ?_⟩
    first
      | (subst h1; rfl)
      | (unfold sCount; rw [if_neg (by omega), if_neg (by omega), if_neg (by omega), if_neg (by omega), if_neg (by omega), if_neg (by omega), if_neg (by omega), if_neg (by omega), if_neg (by omega), if_neg (by omega), if_neg (by omega), if_neg (by omega)])
  · refine z_tabIn (off := 111) (tgt := 112) dX5_count_1 (by omega) (by omega) (by rw [h1]; rfl) (by decide) ?_
    refine z_aload_n dX5_count_112 rfl ?_
    refine z_iconst dX5_count_113 ?_
    refine z_callV mX5_ofAll (vX5_ofAll (by omega) hA) rfl dX5_count_114 kX5_185 (by decide) rfl (by show _ ≤ 8; simp) (by decide) zsh187 (by decide) rfl (fun v114 M114 q114 => ?_)
    obtain ⟨rfl, rfl⟩ := q114
    try simp only [zpush]
    refine z_iret dX5_count_117 rfl ?_
    refine ⟨rfl, ?_⟩
    first
      | (subst h1; rfl)
      | (unfold sCount; rw [if_neg (by omega), if_neg (by omega), if_neg (by omega), if_neg (by omega), if_neg (by omega), if_neg (by omega), if_neg (by omega), if_neg (by omega), if_neg (by omega), if_neg (by omega), if_neg (by omega), if_neg (by omega)])
  · refine z_tabIn (off := 117) (tgt := 118) dX5_count_1 (by omega) (by omega) (by rw [h1]; rfl) (by decide) ?_
    refine z_aload_n dX5_count_118 rfl ?_
    refine z_bipush dX5_count_119 (by decide) ?_
    refine z_callV mX5_ofAll (vX5_ofAll (by omega) hA) rfl dX5_count_121 kX5_185 (by decide) rfl (by show _ ≤ 8; simp) (by decide) zsh187 (by decide) rfl (fun v121 M121 q121 => ?_)
    obtain ⟨rfl, rfl⟩ := q121
    try simp only [zpush]
    refine z_iret dX5_count_124 rfl ?_
    refine ⟨rfl, ?_⟩
    first
      | (subst h1; rfl)
      | (unfold sCount; rw [if_neg (by omega), if_neg (by omega), if_neg (by omega), if_neg (by omega), if_neg (by omega), if_neg (by omega), if_neg (by omega), if_neg (by omega), if_neg (by omega), if_neg (by omega), if_neg (by omega), if_neg (by omega)])
  · refine z_tabIn (off := 124) (tgt := 125) dX5_count_1 (by omega) (by omega) (by rw [h1]; rfl) (by decide) ?_
    refine z_aload_n dX5_count_125 rfl ?_
    refine z_bipush dX5_count_126 (by decide) ?_
    refine z_callV mX5_ofAll (vX5_ofAll (by omega) hA) rfl dX5_count_128 kX5_185 (by decide) rfl (by show _ ≤ 8; simp) (by decide) zsh187 (by decide) rfl (fun v128 M128 q128 => ?_)
    obtain ⟨rfl, rfl⟩ := q128
    try simp only [zpush]
    refine z_iret dX5_count_131 rfl ?_
    refine ⟨rfl, ?_⟩
    first
      | (subst h1; rfl)
      | (unfold sCount; rw [if_neg (by omega), if_neg (by omega), if_neg (by omega), if_neg (by omega), if_neg (by omega), if_neg (by omega), if_neg (by omega), if_neg (by omega), if_neg (by omega), if_neg (by omega), if_neg (by omega), if_neg (by omega)])
  · refine z_tabIn (off := 131) (tgt := 132) dX5_count_1 (by omega) (by omega) (by rw [h1]; rfl) (by decide) ?_
    refine z_aload_n dX5_count_132 rfl ?_
    refine z_getR (b := 188) dX5_count_133 fX5_7 (by decide) zsh187 rfl rfl ?_
    refine z_sipush dX5_count_136 (by decide) ?_
    refine z_iload_n dX5_count_139 rfl ?_
    refine z_iadd dX5_count_140 ?_
    refine z_bipush dX5_count_141 (by decide) ?_
    refine z_isub dX5_count_143 ?_
    refine z_sload dX5_count_144 (by omega) ?_
    refine z_iret dX5_count_145 rfl ?_
    refine ⟨rfl, ?_⟩
    first
      | (subst h1; rfl)
      | (unfold sCount; rw [if_neg (by omega), if_neg (by omega), if_neg (by omega), if_neg (by omega), if_neg (by omega), if_neg (by omega), if_neg (by omega), if_neg (by omega), if_neg (by omega), if_neg (by omega), if_neg (by omega), if_neg (by omega)])
  · refine z_tabIn (off := 131) (tgt := 132) dX5_count_1 (by omega) (by omega) (by rw [h1]; rfl) (by decide) ?_
    refine z_aload_n dX5_count_132 rfl ?_
    refine z_getR (b := 188) dX5_count_133 fX5_7 (by decide) zsh187 rfl rfl ?_
    refine z_sipush dX5_count_136 (by decide) ?_
    refine z_iload_n dX5_count_139 rfl ?_
    refine z_iadd dX5_count_140 ?_
    refine z_bipush dX5_count_141 (by decide) ?_
    refine z_isub dX5_count_143 ?_
    refine z_sload dX5_count_144 (by omega) ?_
    refine z_iret dX5_count_145 rfl ?_
    refine ⟨rfl, ?_⟩
    first
      | (subst h1; rfl)
      | (unfold sCount; rw [if_neg (by omega), if_neg (by omega), if_neg (by omega), if_neg (by omega), if_neg (by omega), if_neg (by omega), if_neg (by omega), if_neg (by omega), if_neg (by omega), if_neg (by omega), if_neg (by omega), if_neg (by omega)])
  · refine z_tabIn (off := 131) (tgt := 132) dX5_count_1 (by omega) (by omega) (by rw [h1]; rfl) (by decide) ?_
    refine z_aload_n dX5_count_132 rfl ?_
    refine z_getR (b := 188) dX5_count_133 fX5_7 (by decide) zsh187 rfl rfl ?_
    refine z_sipush dX5_count_136 (by decide) ?_
    refine z_iload_n dX5_count_139 rfl ?_
    refine z_iadd dX5_count_140 ?_
    refine z_bipush dX5_count_141 (by decide) ?_
    refine z_isub dX5_count_143 ?_
    refine z_sload dX5_count_144 (by omega) ?_
    refine z_iret dX5_count_145 rfl ?_
    refine ⟨rfl, ?_⟩
    first
      | (subst h1; rfl)
      | (unfold sCount; rw [if_neg (by omega), if_neg (by omega), if_neg (by omega), if_neg (by omega), if_neg (by omega), if_neg (by omega), if_neg (by omega), if_neg (by omega), if_neg (by omega), if_neg (by omega), if_neg (by omega), if_neg (by omega)])
  · refine z_tabIn (off := 131) (tgt := 132) dX5_count_1 (by omega) (by omega) (by rw [h1]; rfl) (by decide) ?_
    refine z_aload_n dX5_count_132 rfl ?_
    refine z_getR (b := 188) dX5_count_133 fX5_7 (by decide) zsh187 rfl rfl ?_
    refine z_sipush dX5_count_136 (by decide) ?_
    refine z_iload_n dX5_count_139 rfl ?_
    refine z_iadd dX5_count_140 ?_
    refine z_bipush dX5_count_141 (by decide) ?_
    refine z_isub dX5_count_143 ?_
    refine z_sload dX5_count_144 (by omega) ?_
    refine z_iret dX5_count_145 rfl ?_
    refine ⟨rfl, ?_⟩
    first
      | (subst h1; rfl)
      | (unfold sCount; rw [if_neg (by omega), if_neg (by omega), if_neg (by omega), if_neg (by omega), if_neg (by omega), if_neg (by omega), if_neg (by omega), if_neg (by omega), if_neg (by omega), if_neg (by omega), if_neg (by omega), if_neg (by omega)])
  · refine z_tabIn (off := 145) (tgt := 146) dX5_count_1 (by omega) (by omega) (by rw [h1]; rfl) (by decide) ?_
    refine z_aload_n dX5_count_146 rfl ?_
    refine z_oget (kI := 3) dX5_count_147 fX5_44 (by decide) (by decide) zsh187 rfl rfl ?_
    refine z_iret dX5_count_150 rfl ?_
    refine ⟨rfl, ?_⟩
    first
      | (subst h1; rfl)
      | (unfold sCount; rw [if_neg (by omega), if_neg (by omega), if_neg (by omega), if_neg (by omega), if_neg (by omega), if_neg (by omega), if_neg (by omega), if_neg (by omega), if_neg (by omega), if_neg (by omega), if_neg (by omega), if_neg (by omega)])
  · refine z_tabIn (off := 150) (tgt := 151) dX5_count_1 (by omega) (by omega) (by rw [h1]; rfl) (by decide) ?_
    refine z_aload_n dX5_count_151 rfl ?_
    refine z_oget (kI := 7) dX5_count_152 fX5_113 (by decide) (by decide) zsh187 rfl rfl ?_
    refine z_iret dX5_count_155 rfl ?_
    refine ⟨rfl, ?_⟩
    first
      | (subst h1; rfl)
      | (unfold sCount; rw [if_neg (by omega), if_neg (by omega), if_neg (by omega), if_neg (by omega), if_neg (by omega), if_neg (by omega), if_neg (by omega), if_neg (by omega), if_neg (by omega), if_neg (by omega), if_neg (by omega), if_neg (by omega)])
  · refine z_tabOut (tgt := 156) dX5_count_1 (by omega) h1 (by decide) ?_
    refine z_bipush dX5_count_156 (by decide) ?_
    refine z_iret dX5_count_158 rfl ?_
    refine ⟨rfl, ?_⟩
    first
      | (subst h1; rfl)
      | (unfold sCount; rw [if_neg (by omega), if_neg (by omega), if_neg (by omega), if_neg (by omega), if_neg (by omega), if_neg (by omega), if_neg (by omega), if_neg (by omega), if_neg (by omega), if_neg (by omega), if_neg (by omega), if_neg (by omega)])
