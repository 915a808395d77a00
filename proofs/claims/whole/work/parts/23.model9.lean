theorem vX5_next {G : zG} {M : zM} {σ : zS} (hX : zTx M) (hs : 0 ≤ M 187 11 ∧ M 187 11 ≤ M 187 7 + 1) : zCall G yX5_next YX5_next [.inr (some 187)] (zt M σ) (fun v M' => zt M σ = M' ∧ v = some (.inl (pN (M 192) (M 187 7) (M 187 11)))) := by
  refine zEnter (by decide +kernel) rfl (Nat.le_of_ble_eq_true rfl) ?_
  have hn := hX.1
  have hT := hX.2
  refine z_aload_n dX5_next_0 rfl ?_
  refine z_oget (kI := 11) dX5_next_1 fX5_116 (by decide) (by decide) zsh187 rfl rfl ?_
  refine z_aload_n dX5_next_4 rfl ?_
  refine z_oget (kI := 7) dX5_next_5 fX5_113 (by decide) (by decide) zsh187 rfl rfl ?_
  refine z_icmp_ge (tgt := 23) dX5_next_8 (by decide) (by omega) (by omega) (fun c8 => ?_) (fun c8 => ?_)
  · refine z_iconst dX5_next_23 ?_
    refine z_iret dX5_next_24 rfl ?_
    refine ⟨rfl, ?_⟩
    unfold pN
    congr 2
    first | rw [if_pos (by omega)] | rw [if_neg (by omega)]
  · refine z_aload_n dX5_next_11 rfl ?_
    refine z_getR (b := 192) dX5_next_12 fX5_22 (by decide) zsh187 rfl rfl ?_
    refine z_aload_n dX5_next_15 rfl ?_
    refine z_oget (kI := 11) dX5_next_16 fX5_116 (by decide) (by decide) zsh187 rfl rfl ?_
    refine z_ocload dX5_next_19 (by decide) (by decide) (zsh192) (by omega) (by decide) ?_
    refine z_goto (tgt := 24) dX5_next_20 (by decide) ?_
    refine z_iret dX5_next_24 rfl ?_
    refine ⟨rfl, ?_⟩
    unfold pN
    congr 2
    first | rw [if_pos (by omega)] | rw [if_neg (by omega)]

theorem vX5_sign {G : zG} {M : zM} {σ : zS} {c : Int} (hX : zTx M) (hs : 0 ≤ M 187 11 ∧ M 187 11 ≤ M 187 7) (hw : M 187 12 = 0 ∨ M 187 12 = 1) (hc : 0 ≤ c ∧ c < 65536) : zCall G yX5_sign YX5_sign [.inr (some 187), .inl c] (zt M σ) (fun v M' => v = none ∧ ∃ N : zM, M' = zt N σ ∧ zPk M N ∧ (∀ j : Int, j ≠ 11 → j ≠ 12 → N 187 j = M 187 j) ∧ N 187 12 = (pS (M 192) (M 187 7) c (M 187 12, M 187 11)).1 ∧ N 187 11 = (pS (M 192) (M 187 7) c (M 187 12, M 187 11)).2) := by
  refine zEnter (by decide +kernel) rfl (Nat.le_of_ble_eq_true rfl) ?_
  have hn := hX.1
  have hT := hX.2
  have hpr := pN_r hT hs.1
  refine z_aload_n dX5_sign_0 rfl ?_
  refine z_aload_n dX5_sign_1 rfl ?_
  refine z_oget (kI := 12) dX5_sign_2 fX5_119 (by decide) (by decide) zsh187 rfl rfl ?_
  refine z_if_ne (tgt := 16) dX5_sign_5 (by decide) (by omega) (fun c5 => ?_) (fun c5 => ?_)
  · refine z_iconst dX5_sign_16 ?_
    refine z_goto (tgt := 21) dX5_sign_17 (by decide) ?_
    refine z_oput (kI := 12) dX5_sign_21 fX5_119 rfl (Or.inr ⟨rfl, by omega⟩) (by decide) (by decide) zsh187 rfl rfl (fun N21 hN21 => ?_)
    have e11 : N21 187 11 = M 187 11 := by rw [hN21, zm_up_ne (by decide)]
    have e12 := congrFun (congrFun hN21 187) 12
    rw [zm_up_at] at e12
    refine z_aload_n dX5_sign_24 rfl ?_
    refine z_dup dX5_sign_25 ?_
    refine z_oget (kI := 11) dX5_sign_26 fX5_116 (by decide) (by decide) zsh187 rfl rfl ?_
    refine z_aload_n dX5_sign_29 rfl ?_
    refine z_oget (kI := 12) dX5_sign_30 fX5_119 (by decide) (by decide) zsh187 rfl rfl ?_
    refine z_if_eq (tgt := 40) dX5_sign_33 (by decide) (by omega) (fun c33 => ?_) (fun c33 => ?_)
    · refine z_iconst dX5_sign_40 ?_
      refine z_iadd dX5_sign_41 ?_
      refine z_oput (kI := 11) dX5_sign_42 fX5_116 rfl (Or.inl rfl) (by decide) (by decide) zsh187 rfl rfl (fun N42 hN42 => ?_)
      refine z_vret dX5_sign_45 rfl ?_
      refine ⟨rfl, N42, rfl, by rw [hN42, hN21]; exact ((zPk.rf M).up (by omega)).up (by omega), fun j q1 q2 => by rw [hN42, zm_up_ne q1, hN21, zm_up_ne q2], ?_, ?_⟩
      · rw [hN42, zm_up_ne (by decide), e12]
        unfold pS
        first | (exfalso; omega) | rw [if_pos (by dsimp only; omega)] | rw [if_neg (by dsimp only; omega)]
      · rw [hN42, zm_up_at, e11]
        unfold pS
        first
          | (exfalso; omega)
          | (rw [if_pos (by dsimp only; omega)]; done)
          | (rw [if_neg (by dsimp only; omega)]; dsimp only; omega)
    · refine z_iconst dX5_sign_36 ?_
      refine z_goto (tgt := 41) dX5_sign_37 (by decide) ?_
      refine z_iadd dX5_sign_41 ?_
      refine z_oput (kI := 11) dX5_sign_42 fX5_116 rfl (Or.inl rfl) (by decide) (by decide) zsh187 rfl rfl (fun N42 hN42 => ?_)
      refine z_vret dX5_sign_45 rfl ?_
      refine ⟨rfl, N42, rfl, by rw [hN42, hN21]; exact ((zPk.rf M).up (by omega)).up (by omega), fun j q1 q2 => by rw [hN42, zm_up_ne q1, hN21, zm_up_ne q2], ?_, ?_⟩
      · rw [hN42, zm_up_ne (by decide), e12]
        unfold pS
        first | (exfalso; omega) | rw [if_pos (by dsimp only; omega)] | rw [if_neg (by dsimp only; omega)]
      · rw [hN42, zm_up_at, e11]
        unfold pS
        first
          | (exfalso; omega)
          | (rw [if_pos (by dsimp only; omega)]; done)
          | (rw [if_neg (by dsimp only; omega)]; dsimp only; omega)
  · refine z_aload_n dX5_sign_8 rfl ?_
    refine z_callV mX5_next (vX5_next hX (by omega)) rfl dX5_sign_9 kX5_123 (by decide) rfl (by show _ ≤ 8; simp) (by decide) zsh187 (by decide) rfl (fun v9 M9 q9 => ?_)
    obtain ⟨rfl, rfl⟩ := q9
    try simp only [zpush]
    refine z_iload_n dX5_sign_12 rfl ?_
    refine z_icmp_eq (tgt := 20) dX5_sign_13 (by decide) (by omega) (by omega) (fun c13 => ?_) (fun c13 => ?_)
    · refine z_iconst dX5_sign_20 ?_
      refine z_oput (kI := 12) dX5_sign_21 fX5_119 rfl (Or.inr ⟨rfl, by omega⟩) (by decide) (by decide) zsh187 rfl rfl (fun N21 hN21 => ?_)
      have e11 : N21 187 11 = M 187 11 := by rw [hN21, zm_up_ne (by decide)]
      have e12 := congrFun (congrFun hN21 187) 12
      rw [zm_up_at] at e12
      refine z_aload_n dX5_sign_24 rfl ?_
      refine z_dup dX5_sign_25 ?_
      refine z_oget (kI := 11) dX5_sign_26 fX5_116 (by decide) (by decide) zsh187 rfl rfl ?_
      refine z_aload_n dX5_sign_29 rfl ?_
      refine z_oget (kI := 12) dX5_sign_30 fX5_119 (by decide) (by decide) zsh187 rfl rfl ?_
      refine z_if_eq (tgt := 40) dX5_sign_33 (by decide) (by omega) (fun c33 => ?_) (fun c33 => ?_)
      · refine z_iconst dX5_sign_40 ?_
        refine z_iadd dX5_sign_41 ?_
        refine z_oput (kI := 11) dX5_sign_42 fX5_116 rfl (Or.inl rfl) (by decide) (by decide) zsh187 rfl rfl (fun N42 hN42 => ?_)
        refine z_vret dX5_sign_45 rfl ?_
        refine ⟨rfl, N42, rfl, by rw [hN42, hN21]; exact ((zPk.rf M).up (by omega)).up (by omega), fun j q1 q2 => by rw [hN42, zm_up_ne q1, hN21, zm_up_ne q2], ?_, ?_⟩
        · rw [hN42, zm_up_ne (by decide), e12]
          unfold pS
          first | (exfalso; omega) | rw [if_pos (by dsimp only; omega)] | rw [if_neg (by dsimp only; omega)]
        · rw [hN42, zm_up_at, e11]
          unfold pS
          first
            | (exfalso; omega)
            | (rw [if_pos (by dsimp only; omega)]; done)
            | (rw [if_neg (by dsimp only; omega)]; dsimp only; omega)
      · refine z_iconst dX5_sign_36 ?_
        refine z_goto (tgt := 41) dX5_sign_37 (by decide) ?_
        refine z_iadd dX5_sign_41 ?_
        refine z_oput (kI := 11) dX5_sign_42 fX5_116 rfl (Or.inl rfl) (by decide) (by decide) zsh187 rfl rfl (fun N42 hN42 => ?_)
        refine z_vret dX5_sign_45 rfl ?_
        refine ⟨rfl, N42, rfl, by rw [hN42, hN21]; exact ((zPk.rf M).up (by omega)).up (by omega), fun j q1 q2 => by rw [hN42, zm_up_ne q1, hN21, zm_up_ne q2], ?_, ?_⟩
        · rw [hN42, zm_up_ne (by decide), e12]
          unfold pS
          first | (exfalso; omega) | rw [if_pos (by dsimp only; omega)] | rw [if_neg (by dsimp only; omega)]
        · rw [hN42, zm_up_at, e11]
          unfold pS
          first
            | (exfalso; omega)
            | (rw [if_pos (by dsimp only; omega)]; done)
            | (rw [if_neg (by dsimp only; omega)]; dsimp only; omega)
    · refine z_iconst dX5_sign_16 ?_
      refine z_goto (tgt := 21) dX5_sign_17 (by decide) ?_
      refine z_oput (kI := 12) dX5_sign_21 fX5_119 rfl (Or.inr ⟨rfl, by omega⟩) (by decide) (by decide) zsh187 rfl rfl (fun N21 hN21 => ?_)
      have e11 : N21 187 11 = M 187 11 := by rw [hN21, zm_up_ne (by decide)]
      have e12 := congrFun (congrFun hN21 187) 12
      rw [zm_up_at] at e12
      refine z_aload_n dX5_sign_24 rfl ?_
      refine z_dup dX5_sign_25 ?_
      refine z_oget (kI := 11) dX5_sign_26 fX5_116 (by decide) (by decide) zsh187 rfl rfl ?_
      refine z_aload_n dX5_sign_29 rfl ?_
      refine z_oget (kI := 12) dX5_sign_30 fX5_119 (by decide) (by decide) zsh187 rfl rfl ?_
      refine z_if_eq (tgt := 40) dX5_sign_33 (by decide) (by omega) (fun c33 => ?_) (fun c33 => ?_)
      · refine z_iconst dX5_sign_40 ?_
        refine z_iadd dX5_sign_41 ?_
        refine z_oput (kI := 11) dX5_sign_42 fX5_116 rfl (Or.inl rfl) (by decide) (by decide) zsh187 rfl rfl (fun N42 hN42 => ?_)
        refine z_vret dX5_sign_45 rfl ?_
        refine ⟨rfl, N42, rfl, by rw [hN42, hN21]; exact ((zPk.rf M).up (by omega)).up (by omega), fun j q1 q2 => by rw [hN42, zm_up_ne q1, hN21, zm_up_ne q2], ?_, ?_⟩
        · rw [hN42, zm_up_ne (by decide), e12]
          unfold pS
          first | (exfalso; omega) | rw [if_pos (by dsimp only; omega)] | rw [if_neg (by dsimp only; omega)]
        · rw [hN42, zm_up_at, e11]
          unfold pS
          first
            | (exfalso; omega)
            | (rw [if_pos (by dsimp only; omega)]; done)
            | (rw [if_neg (by dsimp only; omega)]; dsimp only; omega)
      · refine z_iconst dX5_sign_36 ?_
        refine z_goto (tgt := 41) dX5_sign_37 (by decide) ?_
        refine z_iadd dX5_sign_41 ?_
        refine z_oput (kI := 11) dX5_sign_42 fX5_116 rfl (Or.inl rfl) (by decide) (by decide) zsh187 rfl rfl (fun N42 hN42 => ?_)
        refine z_vret dX5_sign_45 rfl ?_
        refine ⟨rfl, N42, rfl, by rw [hN42, hN21]; exact ((zPk.rf M).up (by omega)).up (by omega), fun j q1 q2 => by rw [hN42, zm_up_ne q1, hN21, zm_up_ne q2], ?_, ?_⟩
        · rw [hN42, zm_up_ne (by decide), e12]
          unfold pS
          first | (exfalso; omega) | rw [if_pos (by dsimp only; omega)] | rw [if_neg (by dsimp only; omega)]
        · rw [hN42, zm_up_at, e11]
          unfold pS
          first
            | (exfalso; omega)
            | (rw [if_pos (by dsimp only; omega)]; done)
            | (rw [if_neg (by dsimp only; omega)]; dsimp only; omega)

theorem vX5_number {G : zG} {M : zM} {σ : zS} {lo hi : Int} (hX : zTx M) (hs : 0 ≤ M 187 11 ∧ M 187 11 ≤ M 187 7) (hw : M 187 12 = 0 ∨ M 187 12 = 1) (hlh : 0 ≤ lo ∧ lo ≤ 1 ∧ 5 ≤ hi ∧ hi ≤ 99) : zCall G yX5_number YX5_number [.inr (some 187), .inl lo, .inl hi] (zt M σ) (fun v M' => ∃ (N : zM) (r : Int), v = some (.inl r) ∧ M' = zt N σ ∧ zPk M N ∧ (∀ j : Int, j ≠ 11 → j ≠ 12 → N 187 j = M 187 j) ∧ N 187 12 = (pM (M 192) (M 187 7) lo hi (M 187 12, M 187 11)).1 ∧ N 187 11 = (pM (M 192) (M 187 7) lo hi (M 187 12, M 187 11)).2 ∧ (N 187 12 = 0 → r = nV (M 192) (M 187 7) hi (M 187 11)) ∧ (0 ≤ r ∧ r ≤ 99)) := by
  refine zEnter (by decide +kernel) rfl (Nat.le_of_ble_eq_true rfl) ?_
  have hn := hX.1
  have hT := hX.2
  have hpr := pN_r hT hs.1
  have hpr2 := pN_r hT (i := M 187 11 + 1) (by omega)
  refine z_aload_n dX5_number_0 rfl ?_
  refine z_callV mX5_next (vX5_next hX (by omega)) rfl dX5_number_1 kX5_123 (by decide) rfl (by show _ ≤ 8; simp) (by decide) zsh187 (by decide) rfl (fun v1 M1 q1 => ?_)
  obtain ⟨rfl, rfl⟩ := q1
  try simp only [zpush]
  refine z_bipush dX5_number_4 (by decide) ?_
  refine z_isub dX5_number_6 ?_
  refine z_istore_n dX5_number_7 (by decide) ?_
  refine z_aload_n dX5_number_8 rfl ?_
  refine z_aload_n dX5_number_9 rfl ?_
  refine z_oget (kI := 12) dX5_number_10 fX5_119 (by decide) (by decide) zsh187 rfl rfl ?_
  refine z_if_ne (tgt := 36) dX5_number_13 (by decide) (by omega) (fun c13 => ?_) (fun c13 => ?_)
  · refine z_iconst dX5_number_36 ?_
    refine z_goto (tgt := 41) dX5_number_37 (by decide) ?_
    refine z_oput (kI := 12) dX5_number_41 fX5_119 rfl (Or.inr ⟨rfl, by omega⟩) (by decide) (by decide) zsh187 rfl rfl (fun N41 hN41 => ?_)
    have e11 : N41 187 11 = M 187 11 := by rw [hN41, zm_up_ne (by decide)]
    have e12 := congrFun (congrFun hN41 187) 12
    rw [zm_up_at] at e12
    refine z_aload_n dX5_number_44 rfl ?_
    refine z_oget (kI := 12) dX5_number_45 fX5_119 (by decide) (by decide) zsh187 rfl rfl ?_
    refine z_if_eq (tgt := 53) dX5_number_48 (by decide) (by omega) (fun c48 => ?_) (fun c48 => ?_)
    · have hin := pN_in (T := M 192) (n := M 187 7) (i := M 187 11) (by omega)
      have hgood : M 187 12 = 0 ∧ lo ≤ pN (M 192) (M 187 7) (M 187 11) - 48 ∧ pN (M 192) (M 187 7) (M 187 11) - 48 ≤ (if hi < 9 then hi else 9) := by split <;> omega
      refine z_aload_n dX5_number_53 rfl ?_
      refine z_dup dX5_number_54 ?_
      refine z_oget (kI := 11) dX5_number_55 fX5_116 (by decide) (by decide) zsh187 rfl rfl ?_
      refine z_iconst dX5_number_58 ?_
      refine z_iadd dX5_number_59 ?_
      refine z_oput (kI := 11) dX5_number_60 fX5_116 rfl (Or.inl rfl) (by decide) (by decide) zsh187 rfl rfl (fun N60 hN60 => ?_)
      have hk60 : zPk M N60 := by rw [hN60, hN41]; exact ((zPk.rf M).up (by omega)).up (by omega)
      have f11 : N60 187 11 = M 187 11 + 1 := by rw [hN60, zm_up_at, e11]
      have f12 : N60 187 12 = N41 187 12 := by rw [hN60, zm_up_ne (by decide)]
      have fT : N60 192 = M 192 := hk60.1 192 (by decide)
      have f7 : N60 187 7 = M 187 7 := hk60.2 7 (by omega)
      have fk : ∀ j : Int, j ≠ 11 → j ≠ 12 → N60 187 j = M 187 j := fun j q1 q2 => by rw [hN60, zm_up_ne q1, hN41, zm_up_ne q2]
      refine z_bipush dX5_number_63 (by decide) ?_
      refine z_iload_n dX5_number_65 rfl ?_
      refine z_imul dX5_number_66 ?_
      refine z_aload_n dX5_number_67 rfl ?_
      refine z_callV mX5_next (vX5_next (hX.k hk60) (by omega)) rfl dX5_number_68 kX5_123 (by decide) rfl (by show _ ≤ 8; simp) (by decide) zsh187 (by decide) rfl (fun v68 M68 q68 => ?_)
      obtain ⟨rfl, rfl⟩ := q68
      try simp only [zpush]
      rw [fT, f7, f11]
      refine z_iadd dX5_number_71 ?_
      refine z_bipush dX5_number_72 (by decide) ?_
      refine z_isub dX5_number_74 ?_
      refine z_istore dX5_number_75 (by decide) ?_
      refine z_iload_n dX5_number_77 rfl ?_
      refine z_if_le (tgt := 114) dX5_number_78 (by decide) (by omega) (fun c78 => ?_) (fun c78 => ?_)
      · refine z_iload_n dX5_number_114 rfl ?_
        refine z_iret dX5_number_115 rfl ?_
        refine ⟨N60, _, rfl, rfl, hk60, fk, ?_, ?_, fun q => ?_, by omega⟩
        · unfold pM
          rw [if_pos hgood, f12]
          dsimp only
          omega
        · unfold pM nE
          rw [if_pos hgood, f11]
          dsimp only
          rw [if_neg (by omega)]
        · unfold nV
          rw [if_neg (by omega)]
      · refine z_aload_n dX5_number_81 rfl ?_
        refine z_callV mX5_next (vX5_next (hX.k hk60) (by omega)) rfl dX5_number_82 kX5_123 (by decide) rfl (by show _ ≤ 8; simp) (by decide) zsh187 (by decide) rfl (fun v82 M82 q82 => ?_)
        obtain ⟨rfl, rfl⟩ := q82
        try simp only [zpush]
        rw [fT, f7, f11]
        refine z_bipush dX5_number_85 (by decide) ?_
        refine z_bipush dX5_number_87 (by decide) ?_
        refine z_callS mX5_in (vX5_in (by omega) (by omega) (by omega)) rfl dX5_number_89 kX5_32 (by decide) rfl (by show _ ≤ 8; simp) (fun v89 M89 q89 => ?_)
        obtain ⟨rfl, b89, rfl, h89⟩ := q89
        try simp only [zpush]
        refine z_if_eq (tgt := 114) dX5_number_92 (by decide) (by omega) (fun c92 => ?_) (fun c92 => ?_)
        · refine z_iload_n dX5_number_114 rfl ?_
          refine z_iret dX5_number_115 rfl ?_
          refine ⟨N60, _, rfl, rfl, hk60, fk, ?_, ?_, fun q => ?_, by omega⟩
          · unfold pM
            rw [if_pos hgood, f12]
            dsimp only
            omega
          · unfold pM nE
            rw [if_pos hgood, f11]
            dsimp only
            rw [if_neg (by omega)]
          · unfold nV
            rw [if_neg (by omega)]
        · refine z_iload dX5_number_95 rfl ?_
          refine z_iload_n dX5_number_97 rfl ?_
          refine z_icmp_gt (tgt := 114) dX5_number_98 (by decide) (by omega) (by omega) (fun c98 => ?_) (fun c98 => ?_)
          · refine z_iload_n dX5_number_114 rfl ?_
            refine z_iret dX5_number_115 rfl ?_
            refine ⟨N60, _, rfl, rfl, hk60, fk, ?_, ?_, fun q => ?_, by omega⟩
            · unfold pM
              rw [if_pos hgood, f12]
              dsimp only
              omega
            · unfold pM nE
              rw [if_pos hgood, f11]
              dsimp only
              rw [if_neg (by omega)]
            · unfold nV
              rw [if_neg (by omega)]
          · refine z_aload_n dX5_number_101 rfl ?_
            refine z_dup dX5_number_102 ?_
            refine z_oget (kI := 11) dX5_number_103 fX5_116 (by decide) (by decide) zsh187 rfl rfl ?_
            refine z_iconst dX5_number_106 ?_
            refine z_iadd dX5_number_107 ?_
            refine z_oput (kI := 11) dX5_number_108 fX5_116 rfl (Or.inl rfl) (by decide) (by decide) zsh187 rfl rfl (fun N108 hN108 => ?_)
            refine z_iload dX5_number_111 rfl ?_
            refine z_iret dX5_number_113 rfl ?_
            refine ⟨N108, _, rfl, rfl, by rw [hN108]; exact hk60.up (by omega), fun j q1 q2 => by rw [hN108, zm_up_ne q1]; exact fk j q1 q2, ?_, ?_, fun q => ?_, by omega⟩
            · unfold pM
              rw [if_pos hgood, hN108, zm_up_ne (by decide), f12]
              dsimp only
              omega
            · unfold pM nE
              rw [if_pos hgood, hN108, zm_up_at, f11]
              dsimp only
              rw [if_pos (by omega)]
              omega
            · unfold nV
              rw [if_pos (by omega)]
    · refine z_iconst dX5_number_51 ?_
      refine z_iret dX5_number_52 rfl ?_
      have hbad : ¬ (M 187 12 = 0 ∧ lo ≤ pN (M 192) (M 187 7) (M 187 11) - 48 ∧ pN (M 192) (M 187 7) (M 187 11) - 48 ≤ (if hi < 9 then hi else 9)) := by split <;> omega
      refine ⟨N41, 0, rfl, rfl, by rw [hN41]; exact (zPk.rf M).up (by omega), fun j q1 q2 => by rw [hN41, zm_up_ne q2], ?_, ?_, fun q => by omega, by omega⟩
      · first
        | (exfalso; omega)
        | (unfold pM; rw [if_neg hbad, e12])
      · unfold pM
        rw [if_neg hbad, e11]
  · refine z_iload_n dX5_number_16 rfl ?_
    refine z_iload_n dX5_number_17 rfl ?_
    refine z_iload_n dX5_number_18 rfl ?_
    refine z_bipush dX5_number_19 (by decide) ?_
    refine z_icmp_ge (tgt := 28) dX5_number_21 (by decide) (by omega) (by omega) (fun c21 => ?_) (fun c21 => ?_)
    · refine z_bipush dX5_number_28 (by decide) ?_
      refine z_callS mX5_in (vX5_in (by omega) (by omega) (by omega)) rfl dX5_number_30 kX5_32 (by decide) rfl (by show _ ≤ 8; simp) (fun v30 M30 q30 => ?_)
      obtain ⟨rfl, b30, rfl, h30⟩ := q30
      try simp only [zpush]
      refine z_if_ne (tgt := 40) dX5_number_33 (by decide) (by omega) (fun c33 => ?_) (fun c33 => ?_)
      · refine z_iconst dX5_number_40 ?_
        refine z_oput (kI := 12) dX5_number_41 fX5_119 rfl (Or.inr ⟨rfl, by omega⟩) (by decide) (by decide) zsh187 rfl rfl (fun N41 hN41 => ?_)
        have e11 : N41 187 11 = M 187 11 := by rw [hN41, zm_up_ne (by decide)]
        have e12 := congrFun (congrFun hN41 187) 12
        rw [zm_up_at] at e12
        refine z_aload_n dX5_number_44 rfl ?_
        refine z_oget (kI := 12) dX5_number_45 fX5_119 (by decide) (by decide) zsh187 rfl rfl ?_
        refine z_if_eq (tgt := 53) dX5_number_48 (by decide) (by omega) (fun c48 => ?_) (fun c48 => ?_)
        · have hin := pN_in (T := M 192) (n := M 187 7) (i := M 187 11) (by omega)
          have hgood : M 187 12 = 0 ∧ lo ≤ pN (M 192) (M 187 7) (M 187 11) - 48 ∧ pN (M 192) (M 187 7) (M 187 11) - 48 ≤ (if hi < 9 then hi else 9) := by split <;> omega
          refine z_aload_n dX5_number_53 rfl ?_
          refine z_dup dX5_number_54 ?_
          refine z_oget (kI := 11) dX5_number_55 fX5_116 (by decide) (by decide) zsh187 rfl rfl ?_
          refine z_iconst dX5_number_58 ?_
          refine z_iadd dX5_number_59 ?_
          refine z_oput (kI := 11) dX5_number_60 fX5_116 rfl (Or.inl rfl) (by decide) (by decide) zsh187 rfl rfl (fun N60 hN60 => ?_)
          have hk60 : zPk M N60 := by rw [hN60, hN41]; exact ((zPk.rf M).up (by omega)).up (by omega)
          have f11 : N60 187 11 = M 187 11 + 1 := by rw [hN60, zm_up_at, e11]
          have f12 : N60 187 12 = N41 187 12 := by rw [hN60, zm_up_ne (by decide)]
          have fT : N60 192 = M 192 := hk60.1 192 (by decide)
          have f7 : N60 187 7 = M 187 7 := hk60.2 7 (by omega)
          have fk : ∀ j : Int, j ≠ 11 → j ≠ 12 → N60 187 j = M 187 j := fun j q1 q2 => by rw [hN60, zm_up_ne q1, hN41, zm_up_ne q2]
          refine z_bipush dX5_number_63 (by decide) ?_
          refine z_iload_n dX5_number_65 rfl ?_
          refine z_imul dX5_number_66 ?_
          refine z_aload_n dX5_number_67 rfl ?_
          refine z_callV mX5_next (vX5_next (hX.k hk60) (by omega)) rfl dX5_number_68 kX5_123 (by decide) rfl (by show _ ≤ 8; simp) (by decide) zsh187 (by decide) rfl (fun v68 M68 q68 => ?_)
          obtain ⟨rfl, rfl⟩ := q68
          try simp only [zpush]
          rw [fT, f7, f11]
          refine z_iadd dX5_number_71 ?_
          refine z_bipush dX5_number_72 (by decide) ?_
          refine z_isub dX5_number_74 ?_
          refine z_istore dX5_number_75 (by decide) ?_
          refine z_iload_n dX5_number_77 rfl ?_
          refine z_if_le (tgt := 114) dX5_number_78 (by decide) (by omega) (fun c78 => ?_) (fun c78 => ?_)
          · refine z_iload_n dX5_number_114 rfl ?_
            refine z_iret dX5_number_115 rfl ?_
            refine ⟨N60, _, rfl, rfl, hk60, fk, ?_, ?_, fun q => ?_, by omega⟩
            · unfold pM
              rw [if_pos hgood, f12]
              dsimp only
              omega
            · unfold pM nE
              rw [if_pos hgood, f11]
              dsimp only
              rw [if_neg (by omega)]
            · unfold nV
              rw [if_neg (by omega)]
          · refine z_aload_n dX5_number_81 rfl ?_
            refine z_callV mX5_next (vX5_next (hX.k hk60) (by omega)) rfl dX5_number_82 kX5_123 (by decide) rfl (by show _ ≤ 8; simp) (by decide) zsh187 (by decide) rfl (fun v82 M82 q82 => ?_)
            obtain ⟨rfl, rfl⟩ := q82
            try simp only [zpush]
            rw [fT, f7, f11]
            refine z_bipush dX5_number_85 (by decide) ?_
            refine z_bipush dX5_number_87 (by decide) ?_
            refine z_callS mX5_in (vX5_in (by omega) (by omega) (by omega)) rfl dX5_number_89 kX5_32 (by decide) rfl (by show _ ≤ 8; simp) (fun v89 M89 q89 => ?_)
            obtain ⟨rfl, b89, rfl, h89⟩ := q89
            try simp only [zpush]
            refine z_if_eq (tgt := 114) dX5_number_92 (by decide) (by omega) (fun c92 => ?_) (fun c92 => ?_)
            · refine z_iload_n dX5_number_114 rfl ?_
              refine z_iret dX5_number_115 rfl ?_
              refine ⟨N60, _, rfl, rfl, hk60, fk, ?_, ?_, fun q => ?_, by omega⟩
              · unfold pM
                rw [if_pos hgood, f12]
                dsimp only
                omega
              · unfold pM nE
                rw [if_pos hgood, f11]
                dsimp only
                rw [if_neg (by omega)]
              · unfold nV
                rw [if_neg (by omega)]
            · refine z_iload dX5_number_95 rfl ?_
              refine z_iload_n dX5_number_97 rfl ?_
              refine z_icmp_gt (tgt := 114) dX5_number_98 (by decide) (by omega) (by omega) (fun c98 => ?_) (fun c98 => ?_)
              · refine z_iload_n dX5_number_114 rfl ?_
                refine z_iret dX5_number_115 rfl ?_
                refine ⟨N60, _, rfl, rfl, hk60, fk, ?_, ?_, fun q => ?_, by omega⟩
                · unfold pM
                  rw [if_pos hgood, f12]
                  dsimp only
                  omega
                · unfold pM nE
                  rw [if_pos hgood, f11]
                  dsimp only
                  rw [if_neg (by omega)]
                · unfold nV
                  rw [if_neg (by omega)]
              · refine z_aload_n dX5_number_101 rfl ?_
                refine z_dup dX5_number_102 ?_
                refine z_oget (kI := 11) dX5_number_103 fX5_116 (by decide) (by decide) zsh187 rfl rfl ?_
                refine z_iconst dX5_number_106 ?_
                refine z_iadd dX5_number_107 ?_
                refine z_oput (kI := 11) dX5_number_108 fX5_116 rfl (Or.inl rfl) (by decide) (by decide) zsh187 rfl rfl (fun N108 hN108 => ?_)
                refine z_iload dX5_number_111 rfl ?_
                refine z_iret dX5_number_113 rfl ?_
                refine ⟨N108, _, rfl, rfl, by rw [hN108]; exact hk60.up (by omega), fun j q1 q2 => by rw [hN108, zm_up_ne q1]; exact fk j q1 q2, ?_, ?_, fun q => ?_, by omega⟩
                · unfold pM
                  rw [if_pos hgood, hN108, zm_up_ne (by decide), f12]
                  dsimp only
                  omega
                · unfold pM nE
                  rw [if_pos hgood, hN108, zm_up_at, f11]
                  dsimp only
                  rw [if_pos (by omega)]
                  omega
                · unfold nV
                  rw [if_pos (by omega)]
        · refine z_iconst dX5_number_51 ?_
          refine z_iret dX5_number_52 rfl ?_
          have hbad : ¬ (M 187 12 = 0 ∧ lo ≤ pN (M 192) (M 187 7) (M 187 11) - 48 ∧ pN (M 192) (M 187 7) (M 187 11) - 48 ≤ (if hi < 9 then hi else 9)) := by split <;> omega
          refine ⟨N41, 0, rfl, rfl, by rw [hN41]; exact (zPk.rf M).up (by omega), fun j q1 q2 => by rw [hN41, zm_up_ne q2], ?_, ?_, fun q => by omega, by omega⟩
          · first
            | (exfalso; omega)
            | (unfold pM; rw [if_neg hbad, e12])
          · unfold pM
            rw [if_neg hbad, e11]
      · refine z_iconst dX5_number_36 ?_
        refine z_goto (tgt := 41) dX5_number_37 (by decide) ?_
        refine z_oput (kI := 12) dX5_number_41 fX5_119 rfl (Or.inr ⟨rfl, by omega⟩) (by decide) (by decide) zsh187 rfl rfl (fun N41 hN41 => ?_)
        have e11 : N41 187 11 = M 187 11 := by rw [hN41, zm_up_ne (by decide)]
        have e12 := congrFun (congrFun hN41 187) 12
        rw [zm_up_at] at e12
        refine z_aload_n dX5_number_44 rfl ?_
        refine z_oget (kI := 12) dX5_number_45 fX5_119 (by decide) (by decide) zsh187 rfl rfl ?_
        refine z_if_eq (tgt := 53) dX5_number_48 (by decide) (by omega) (fun c48 => ?_) (fun c48 => ?_)
        · have hin := pN_in (T := M 192) (n := M 187 7) (i := M 187 11) (by omega)
          have hgood : M 187 12 = 0 ∧ lo ≤ pN (M 192) (M 187 7) (M 187 11) - 48 ∧ pN (M 192) (M 187 7) (M 187 11) - 48 ≤ (if hi < 9 then hi else 9) := by split <;> omega
          refine z_aload_n dX5_number_53 rfl ?_
          refine z_dup dX5_number_54 ?_
          refine z_oget (kI := 11) dX5_number_55 fX5_116 (by decide) (by decide) zsh187 rfl rfl ?_
          refine z_iconst dX5_number_58 ?_
          refine z_iadd dX5_number_59 ?_
          refine z_oput (kI := 11) dX5_number_60 fX5_116 rfl (Or.inl rfl) (by decide) (by decide) zsh187 rfl rfl (fun N60 hN60 => ?_)
          have hk60 : zPk M N60 := by rw [hN60, hN41]; exact ((zPk.rf M).up (by omega)).up (by omega)
          have f11 : N60 187 11 = M 187 11 + 1 := by rw [hN60, zm_up_at, e11]
          have f12 : N60 187 12 = N41 187 12 := by rw [hN60, zm_up_ne (by decide)]
          have fT : N60 192 = M 192 := hk60.1 192 (by decide)
          have f7 : N60 187 7 = M 187 7 := hk60.2 7 (by omega)
          have fk : ∀ j : Int, j ≠ 11 → j ≠ 12 → N60 187 j = M 187 j := fun j q1 q2 => by rw [hN60, zm_up_ne q1, hN41, zm_up_ne q2]
          refine z_bipush dX5_number_63 (by decide) ?_
          refine z_iload_n dX5_number_65 rfl ?_
          refine z_imul dX5_number_66 ?_
          refine z_aload_n dX5_number_67 rfl ?_
          refine z_callV mX5_next (vX5_next (hX.k hk60) (by omega)) rfl dX5_number_68 kX5_123 (by decide) rfl (by show _ ≤ 8; simp) (by decide) zsh187 (by decide) rfl (fun v68 M68 q68 => ?_)
          obtain ⟨rfl, rfl⟩ := q68
          try simp only [zpush]
          rw [fT, f7, f11]
          refine z_iadd dX5_number_71 ?_
          refine z_bipush dX5_number_72 (by decide) ?_
          refine z_isub dX5_number_74 ?_
          refine z_istore dX5_number_75 (by decide) ?_
          refine z_iload_n dX5_number_77 rfl ?_
          refine z_if_le (tgt := 114) dX5_number_78 (by decide) (by omega) (fun c78 => ?_) (fun c78 => ?_)
          · refine z_iload_n dX5_number_114 rfl ?_
            refine z_iret dX5_number_115 rfl ?_
            refine ⟨N60, _, rfl, rfl, hk60, fk, ?_, ?_, fun q => ?_, by omega⟩
            · unfold pM
              rw [if_pos hgood, f12]
              dsimp only
              omega
            · unfold pM nE
              rw [if_pos hgood, f11]
              dsimp only
              rw [if_neg (by omega)]
            · unfold nV
              rw [if_neg (by omega)]
          · refine z_aload_n dX5_number_81 rfl ?_
            refine z_callV mX5_next (vX5_next (hX.k hk60) (by omega)) rfl dX5_number_82 kX5_123 (by decide) rfl (by show _ ≤ 8; simp) (by decide) zsh187 (by decide) rfl (fun v82 M82 q82 => ?_)
            obtain ⟨rfl, rfl⟩ := q82
            try simp only [zpush]
            rw [fT, f7, f11]
            refine z_bipush dX5_number_85 (by decide) ?_
            refine z_bipush dX5_number_87 (by decide) ?_
            refine z_callS mX5_in (vX5_in (by omega) (by omega) (by omega)) rfl dX5_number_89 kX5_32 (by decide) rfl (by show _ ≤ 8; simp) (fun v89 M89 q89 => ?_)
            obtain ⟨rfl, b89, rfl, h89⟩ := q89
            try simp only [zpush]
            refine z_if_eq (tgt := 114) dX5_number_92 (by decide) (by omega) (fun c92 => ?_) (fun c92 => ?_)
            · refine z_iload_n dX5_number_114 rfl ?_
              refine z_iret dX5_number_115 rfl ?_
              refine ⟨N60, _, rfl, rfl, hk60, fk, ?_, ?_, fun q => ?_, by omega⟩
              · unfold pM
                rw [if_pos hgood, f12]
                dsimp only
                omega
              · unfold pM nE
                rw [if_pos hgood, f11]
                dsimp only
                rw [if_neg (by omega)]
              · unfold nV
                rw [if_neg (by omega)]
            · refine z_iload dX5_number_95 rfl ?_
              refine z_iload_n dX5_number_97 rfl ?_
              refine z_icmp_gt (tgt := 114) dX5_number_98 (by decide) (by omega) (by omega) (fun c98 => ?_) (fun c98 => ?_)
              · refine z_iload_n dX5_number_114 rfl ?_
                refine z_iret dX5_number_115 rfl ?_
                refine ⟨N60, _, rfl, rfl, hk60, fk, ?_, ?_, fun q => ?_, by omega⟩
                · unfold pM
                  rw [if_pos hgood, f12]
                  dsimp only
                  omega
                · unfold pM nE
                  rw [if_pos hgood, f11]
                  dsimp only
                  rw [if_neg (by omega)]
                · unfold nV
                  rw [if_neg (by omega)]
              · refine z_aload_n dX5_number_101 rfl ?_
                refine z_dup dX5_number_102 ?_
                refine z_oget (kI := 11) dX5_number_103 fX5_116 (by decide) (by decide) zsh187 rfl rfl ?_
                refine z_iconst dX5_number_106 ?_
                refine z_iadd dX5_number_107 ?_
                refine z_oput (kI := 11) dX5_number_108 fX5_116 rfl (Or.inl rfl) (by decide) (by decide) zsh187 rfl rfl (fun N108 hN108 => ?_)
                refine z_iload dX5_number_111 rfl ?_
                refine z_iret dX5_number_113 rfl ?_
                refine ⟨N108, _, rfl, rfl, by rw [hN108]; exact hk60.up (by omega), fun j q1 q2 => by rw [hN108, zm_up_ne q1]; exact fk j q1 q2, ?_, ?_, fun q => ?_, by omega⟩
                · unfold pM
                  rw [if_pos hgood, hN108, zm_up_ne (by decide), f12]
                  dsimp only
                  omega
                · unfold pM nE
                  rw [if_pos hgood, hN108, zm_up_at, f11]
                  dsimp only
                  rw [if_pos (by omega)]
                  omega
                · unfold nV
                  rw [if_pos (by omega)]
        · refine z_iconst dX5_number_51 ?_
          refine z_iret dX5_number_52 rfl ?_
          have hbad : ¬ (M 187 12 = 0 ∧ lo ≤ pN (M 192) (M 187 7) (M 187 11) - 48 ∧ pN (M 192) (M 187 7) (M 187 11) - 48 ≤ (if hi < 9 then hi else 9)) := by split <;> omega
          refine ⟨N41, 0, rfl, rfl, by rw [hN41]; exact (zPk.rf M).up (by omega), fun j q1 q2 => by rw [hN41, zm_up_ne q2], ?_, ?_, fun q => by omega, by omega⟩
          · first
            | (exfalso; omega)
            | (unfold pM; rw [if_neg hbad, e12])
          · unfold pM
            rw [if_neg hbad, e11]
    · refine z_iload_n dX5_number_24 rfl ?_
      refine z_goto (tgt := 30) dX5_number_25 (by decide) ?_
      refine z_callS mX5_in (vX5_in (by omega) (by omega) (by omega)) rfl dX5_number_30 kX5_32 (by decide) rfl (by show _ ≤ 8; simp) (fun v30 M30 q30 => ?_)
      obtain ⟨rfl, b30, rfl, h30⟩ := q30
      try simp only [zpush]
      refine z_if_ne (tgt := 40) dX5_number_33 (by decide) (by omega) (fun c33 => ?_) (fun c33 => ?_)
      · refine z_iconst dX5_number_40 ?_
        refine z_oput (kI := 12) dX5_number_41 fX5_119 rfl (Or.inr ⟨rfl, by omega⟩) (by decide) (by decide) zsh187 rfl rfl (fun N41 hN41 => ?_)
        have e11 : N41 187 11 = M 187 11 := by rw [hN41, zm_up_ne (by decide)]
        have e12 := congrFun (congrFun hN41 187) 12
        rw [zm_up_at] at e12
        refine z_aload_n dX5_number_44 rfl ?_
        refine z_oget (kI := 12) dX5_number_45 fX5_119 (by decide) (by decide) zsh187 rfl rfl ?_
        refine z_if_eq (tgt := 53) dX5_number_48 (by decide) (by omega) (fun c48 => ?_) (fun c48 => ?_)
        · have hin := pN_in (T := M 192) (n := M 187 7) (i := M 187 11) (by omega)
          have hgood : M 187 12 = 0 ∧ lo ≤ pN (M 192) (M 187 7) (M 187 11) - 48 ∧ pN (M 192) (M 187 7) (M 187 11) - 48 ≤ (if hi < 9 then hi else 9) := by split <;> omega
          refine z_aload_n dX5_number_53 rfl ?_
          refine z_dup dX5_number_54 ?_
          refine z_oget (kI := 11) dX5_number_55 fX5_116 (by decide) (by decide) zsh187 rfl rfl ?_
          refine z_iconst dX5_number_58 ?_
          refine z_iadd dX5_number_59 ?_
          refine z_oput (kI := 11) dX5_number_60 fX5_116 rfl (Or.inl rfl) (by decide) (by decide) zsh187 rfl rfl (fun N60 hN60 => ?_)
          have hk60 : zPk M N60 := by rw [hN60, hN41]; exact ((zPk.rf M).up (by omega)).up (by omega)
          have f11 : N60 187 11 = M 187 11 + 1 := by rw [hN60, zm_up_at, e11]
          have f12 : N60 187 12 = N41 187 12 := by rw [hN60, zm_up_ne (by decide)]
          have fT : N60 192 = M 192 := hk60.1 192 (by decide)
          have f7 : N60 187 7 = M 187 7 := hk60.2 7 (by omega)
          have fk : ∀ j : Int, j ≠ 11 → j ≠ 12 → N60 187 j = M 187 j := fun j q1 q2 => by rw [hN60, zm_up_ne q1, hN41, zm_up_ne q2]
          refine z_bipush dX5_number_63 (by decide) ?_
          refine z_iload_n dX5_number_65 rfl ?_
          refine z_imul dX5_number_66 ?_
          refine z_aload_n dX5_number_67 rfl ?_
          refine z_callV mX5_next (vX5_next (hX.k hk60) (by omega)) rfl dX5_number_68 kX5_123 (by decide) rfl (by show _ ≤ 8; simp) (by decide) zsh187 (by decide) rfl (fun v68 M68 q68 => ?_)
          obtain ⟨rfl, rfl⟩ := q68
          try simp only [zpush]
          rw [fT, f7, f11]
          refine z_iadd dX5_number_71 ?_
          refine z_bipush dX5_number_72 (by decide) ?_
          refine z_isub dX5_number_74 ?_
          refine z_istore dX5_number_75 (by decide) ?_
          refine z_iload_n dX5_number_77 rfl ?_
          refine z_if_le (tgt := 114) dX5_number_78 (by decide) (by omega) (fun c78 => ?_) (fun c78 => ?_)
          · refine z_iload_n dX5_number_114 rfl ?_
            refine z_iret dX5_number_115 rfl ?_
            refine ⟨N60, _, rfl, rfl, hk60, fk, ?_, ?_, fun q => ?_, by omega⟩
            · unfold pM
              rw [if_pos hgood, f12]
              dsimp only
              omega
            · unfold pM nE
              rw [if_pos hgood, f11]
              dsimp only
              rw [if_neg (by omega)]
            · unfold nV
              rw [if_neg (by omega)]
          · refine z_aload_n dX5_number_81 rfl ?_
            refine z_callV mX5_next (vX5_next (hX.k hk60) (by omega)) rfl dX5_number_82 kX5_123 (by decide) rfl (by show _ ≤ 8; simp) (by decide) zsh187 (by decide) rfl (fun v82 M82 q82 => ?_)
            obtain ⟨rfl, rfl⟩ := q82
            try simp only [zpush]
            rw [fT, f7, f11]
            refine z_bipush dX5_number_85 (by decide) ?_
            refine z_bipush dX5_number_87 (by decide) ?_
            refine z_callS mX5_in (vX5_in (by omega) (by omega) (by omega)) rfl dX5_number_89 kX5_32 (by decide) rfl (by show _ ≤ 8; simp) (fun v89 M89 q89 => ?_)
            obtain ⟨rfl, b89, rfl, h89⟩ := q89
            try simp only [zpush]
            refine z_if_eq (tgt := 114) dX5_number_92 (by decide) (by omega) (fun c92 => ?_) (fun c92 => ?_)
            · refine z_iload_n dX5_number_114 rfl ?_
              refine z_iret dX5_number_115 rfl ?_
              refine ⟨N60, _, rfl, rfl, hk60, fk, ?_, ?_, fun q => ?_, by omega⟩
              · unfold pM
                rw [if_pos hgood, f12]
                dsimp only
                omega
              · unfold pM nE
                rw [if_pos hgood, f11]
                dsimp only
                rw [if_neg (by omega)]
              · unfold nV
                rw [if_neg (by omega)]
            · refine z_iload dX5_number_95 rfl ?_
              refine z_iload_n dX5_number_97 rfl ?_
              refine z_icmp_gt (tgt := 114) dX5_number_98 (by decide) (by omega) (by omega) (fun c98 => ?_) (fun c98 => ?_)
              · refine z_iload_n dX5_number_114 rfl ?_
                refine z_iret dX5_number_115 rfl ?_
                refine ⟨N60, _, rfl, rfl, hk60, fk, ?_, ?_, fun q => ?_, by omega⟩
                · unfold pM
                  rw [if_pos hgood, f12]
                  dsimp only
                  omega
                · unfold pM nE
                  rw [if_pos hgood, f11]
                  dsimp only
                  rw [if_neg (by omega)]
                · unfold nV
                  rw [if_neg (by omega)]
              · refine z_aload_n dX5_number_101 rfl ?_
                refine z_dup dX5_number_102 ?_
                refine z_oget (kI := 11) dX5_number_103 fX5_116 (by decide) (by decide) zsh187 rfl rfl ?_
                refine z_iconst dX5_number_106 ?_
                refine z_iadd dX5_number_107 ?_
                refine z_oput (kI := 11) dX5_number_108 fX5_116 rfl (Or.inl rfl) (by decide) (by decide) zsh187 rfl rfl (fun N108 hN108 => ?_)
                refine z_iload dX5_number_111 rfl ?_
                refine z_iret dX5_number_113 rfl ?_
                refine ⟨N108, _, rfl, rfl, by rw [hN108]; exact hk60.up (by omega), fun j q1 q2 => by rw [hN108, zm_up_ne q1]; exact fk j q1 q2, ?_, ?_, fun q => ?_, by omega⟩
                · unfold pM
                  rw [if_pos hgood, hN108, zm_up_ne (by decide), f12]
                  dsimp only
                  omega
                · unfold pM nE
                  rw [if_pos hgood, hN108, zm_up_at, f11]
                  dsimp only
                  rw [if_pos (by omega)]
                  omega
                · unfold nV
                  rw [if_pos (by omega)]
        · refine z_iconst dX5_number_51 ?_
          refine z_iret dX5_number_52 rfl ?_
          have hbad : ¬ (M 187 12 = 0 ∧ lo ≤ pN (M 192) (M 187 7) (M 187 11) - 48 ∧ pN (M 192) (M 187 7) (M 187 11) - 48 ≤ (if hi < 9 then hi else 9)) := by split <;> omega
          refine ⟨N41, 0, rfl, rfl, by rw [hN41]; exact (zPk.rf M).up (by omega), fun j q1 q2 => by rw [hN41, zm_up_ne q2], ?_, ?_, fun q => by omega, by omega⟩
          · first
            | (exfalso; omega)
            | (unfold pM; rw [if_neg hbad, e12])
          · unfold pM
            rw [if_neg hbad, e11]
      · refine z_iconst dX5_number_36 ?_
        refine z_goto (tgt := 41) dX5_number_37 (by decide) ?_
        refine z_oput (kI := 12) dX5_number_41 fX5_119 rfl (Or.inr ⟨rfl, by omega⟩) (by decide) (by decide) zsh187 rfl rfl (fun N41 hN41 => ?_)
        have e11 : N41 187 11 = M 187 11 := by rw [hN41, zm_up_ne (by decide)]
        have e12 := congrFun (congrFun hN41 187) 12
        rw [zm_up_at] at e12
        refine z_aload_n dX5_number_44 rfl ?_
        refine z_oget (kI := 12) dX5_number_45 fX5_119 (by decide) (by decide) zsh187 rfl rfl ?_
        refine z_if_eq (tgt := 53) dX5_number_48 (by decide) (by omega) (fun c48 => ?_) (fun c48 => ?_)
        · have hin := pN_in (T := M 192) (n := M 187 7) (i := M 187 11) (by omega)
          have hgood : M 187 12 = 0 ∧ lo ≤ pN (M 192) (M 187 7) (M 187 11) - 48 ∧ pN (M 192) (M 187 7) (M 187 11) - 48 ≤ (if hi < 9 then hi else 9) := by split <;> omega
          refine z_aload_n dX5_number_53 rfl ?_
          refine z_dup dX5_number_54 ?_
          refine z_oget (kI := 11) dX5_number_55 fX5_116 (by decide) (by decide) zsh187 rfl rfl ?_
          refine z_iconst dX5_number_58 ?_
          refine z_iadd dX5_number_59 ?_
          refine z_oput (kI := 11) dX5_number_60 fX5_116 rfl (Or.inl rfl) (by decide) (by decide) zsh187 rfl rfl (fun N60 hN60 => ?_)
          have hk60 : zPk M N60 := by rw [hN60, hN41]; exact ((zPk.rf M).up (by omega)).up (by omega)
          have f11 : N60 187 11 = M 187 11 + 1 := by rw [hN60, zm_up_at, e11]
          have f12 : N60 187 12 = N41 187 12 := by rw [hN60, zm_up_ne (by decide)]
          have fT : N60 192 = M 192 := hk60.1 192 (by decide)
          have f7 : N60 187 7 = M 187 7 := hk60.2 7 (by omega)
          have fk : ∀ j : Int, j ≠ 11 → j ≠ 12 → N60 187 j = M 187 j := fun j q1 q2 => by rw [hN60, zm_up_ne q1, hN41, zm_up_ne q2]
          refine z_bipush dX5_number_63 (by decide) ?_
          refine z_iload_n dX5_number_65 rfl ?_
          refine z_imul dX5_number_66 ?_
          refine z_aload_n dX5_number_67 rfl ?_
          refine z_callV mX5_next (vX5_next (hX.k hk60) (by omega)) rfl dX5_number_68 kX5_123 (by decide) rfl (by show _ ≤ 8; simp) (by decide) zsh187 (by decide) rfl (fun v68 M68 q68 => ?_)
          obtain ⟨rfl, rfl⟩ := q68
          try simp only [zpush]
          rw [fT, f7, f11]
          refine z_iadd dX5_number_71 ?_
          refine z_bipush dX5_number_72 (by decide) ?_
          refine z_isub dX5_number_74 ?_
          refine z_istore dX5_number_75 (by decide) ?_
          refine z_iload_n dX5_number_77 rfl ?_
          refine z_if_le (tgt := 114) dX5_number_78 (by decide) (by omega) (fun c78 => ?_) (fun c78 => ?_)
          · refine z_iload_n dX5_number_114 rfl ?_
            refine z_iret dX5_number_115 rfl ?_
            refine ⟨N60, _, rfl, rfl, hk60, fk, ?_, ?_, fun q => ?_, by omega⟩
            · unfold pM
              rw [if_pos hgood, f12]
              dsimp only
              omega
            · unfold pM nE
              rw [if_pos hgood, f11]
              dsimp only
              rw [if_neg (by omega)]
            · unfold nV
              rw [if_neg (by omega)]
          · refine z_aload_n dX5_number_81 rfl ?_
            refine z_callV mX5_next (vX5_next (hX.k hk60) (by omega)) rfl dX5_number_82 kX5_123 (by decide) rfl (by show _ ≤ 8; simp) (by decide) zsh187 (by decide) rfl (fun v82 M82 q82 => ?_)
            obtain ⟨rfl, rfl⟩ := q82
            try simp only [zpush]
            rw [fT, f7, f11]
            refine z_bipush dX5_number_85 (by decide) ?_
            refine z_bipush dX5_number_87 (by decide) ?_
            refine z_callS mX5_in (vX5_in (by omega) (by omega) (by omega)) rfl dX5_number_89 kX5_32 (by decide) rfl (by show _ ≤ 8; simp) (fun v89 M89 q89 => ?_)
            obtain ⟨rfl, b89, rfl, h89⟩ := q89
            try simp only [zpush]
            refine z_if_eq (tgt := 114) dX5_number_92 (by decide) (by omega) (fun c92 => ?_) (fun c92 => ?_)
            · refine z_iload_n dX5_number_114 rfl ?_
              refine z_iret dX5_number_115 rfl ?_
              refine ⟨N60, _, rfl, rfl, hk60, fk, ?_, ?_, fun q => ?_, by omega⟩
              · unfold pM
                rw [if_pos hgood, f12]
                dsimp only
                omega
              · unfold pM nE
                rw [if_pos hgood, f11]
                dsimp only
                rw [if_neg (by omega)]
              · unfold nV
                rw [if_neg (by omega)]
            · refine z_iload dX5_number_95 rfl ?_
              refine z_iload_n dX5_number_97 rfl ?_
              refine z_icmp_gt (tgt := 114) dX5_number_98 (by decide) (by omega) (by omega) (fun c98 => ?_) (fun c98 => ?_)
              · refine z_iload_n dX5_number_114 rfl ?_
                refine z_iret dX5_number_115 rfl ?_
                refine ⟨N60, _, rfl, rfl, hk60, fk, ?_, ?_, fun q => ?_, by omega⟩
                · unfold pM
                  rw [if_pos hgood, f12]
                  dsimp only
                  omega
                · unfold pM nE
                  rw [if_pos hgood, f11]
                  dsimp only
                  rw [if_neg (by omega)]
                · unfold nV
                  rw [if_neg (by omega)]
              · refine z_aload_n dX5_number_101 rfl ?_
                refine z_dup dX5_number_102 ?_
                refine z_oget (kI := 11) dX5_number_103 fX5_116 (by decide) (by decide) zsh187 rfl rfl ?_
                refine z_iconst dX5_number_106 ?_
                refine z_iadd dX5_number_107 ?_
                refine z_oput (kI := 11) dX5_number_108 fX5_116 rfl (Or.inl rfl) (by decide) (by decide) zsh187 rfl rfl (fun N108 hN108 => ?_)
                refine z_iload dX5_number_111 rfl ?_
                refine z_iret dX5_number_113 rfl ?_
                refine ⟨N108, _, rfl, rfl, by rw [hN108]; exact hk60.up (by omega), fun j q1 q2 => by rw [hN108, zm_up_ne q1]; exact fk j q1 q2, ?_, ?_, fun q => ?_, by omega⟩
                · unfold pM
                  rw [if_pos hgood, hN108, zm_up_ne (by decide), f12]
                  dsimp only
                  omega
                · unfold pM nE
                  rw [if_pos hgood, hN108, zm_up_at, f11]
                  dsimp only
                  rw [if_pos (by omega)]
                  omega
                · unfold nV
                  rw [if_pos (by omega)]
        · refine z_iconst dX5_number_51 ?_
          refine z_iret dX5_number_52 rfl ?_
          have hbad : ¬ (M 187 12 = 0 ∧ lo ≤ pN (M 192) (M 187 7) (M 187 11) - 48 ∧ pN (M 192) (M 187 7) (M 187 11) - 48 ≤ (if hi < 9 then hi else 9)) := by split <;> omega
          refine ⟨N41, 0, rfl, rfl, by rw [hN41]; exact (zPk.rf M).up (by omega), fun j q1 q2 => by rw [hN41, zm_up_ne q2], ?_, ?_, fun q => by omega, by omega⟩
          · first
            | (exfalso; omega)
            | (unfold pM; rw [if_neg hbad, e12])
          · unfold pM
            rw [if_neg hbad, e11]
