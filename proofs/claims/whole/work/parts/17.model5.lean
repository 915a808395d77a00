theorem vX5_comes {G : zG} {M : zM} {σ : zS} {lane slime : Int} (hm8 : 0 ≤ σ 535 ∧ σ 535 ≤ 8) : zCall G yX5_comes YX5_comes [.inr (some 187), .inl lane, .inl slime] (zt M σ) (fun v M' => v = some (.inl (σ 535)) ∧ M' = zt M (sCome σ lane slime)) := by
  refine zEnter (by decide +kernel) rfl (Nat.le_of_ble_eq_true rfl) ?_
  have hs9 := hm8
  refine z_aload_n dX5_comes_0 rfl ?_
  refine z_getR (b := 188) dX5_comes_1 fX5_7 (by decide) zsh187 rfl rfl ?_
  refine z_sipush dX5_comes_4 (by decide) ?_
  refine z_sload dX5_comes_7 (by omega) ?_
  refine z_istore_n dX5_comes_8 (by decide) ?_
  generalize hm : σ 535 = m at hm8 hs9
  refine z_iconst dX5_comes_9 ?_
  refine z_istore dX5_comes_10 (by decide) ?_
  have L : ∀ (n : Nat) (c : Int) (τ : zS), (0 ≤ c ∧ c ≤ 10) → (c + n = 11) → (zfor (fun j s => zu s (360 + 10 * m + j) 0) c 10 τ = sComeA σ m) → zW G YX5_comes (fun v M' => v = some (.inl m) ∧ M' = zt M (sCome σ lane slime)) 12 [(4, .inl c), (3, .inl m), (0, .inr (some 187)), (1, .inl lane), (2, .inl slime)] [] (zt M τ) := by
    intro n
    induction n with
    | zero => intro c τ hc hcn he; exfalso; omega
    | succ n ih =>
      intro c τ hc hcn he
      refine z_iload dX5_comes_12 rfl ?_
      refine z_bipush dX5_comes_14 (by decide) ?_
      refine z_icmp_ge (tgt := 37) dX5_comes_16 (by decide) (by omega) (by omega) (fun c16 => ?_) (fun c16 => ?_)
      · rw [zfor_end (by omega)] at he
        refine z_iconst dX5_comes_37 ?_
        refine z_istore dX5_comes_38 (by decide) ?_
        have L2 : ∀ (n : Nat) (c : Int) (τ2 : zS), (0 ≤ c ∧ c ≤ 9) → (c + n = 10) → (zfor (fun j s => zu (zu s (450 + 9 * m + j) 0) (450 + 9 * j + m) 0) c 9 τ2 = sComeB (sComeA σ m) m) → zW G YX5_comes (fun v M' => v = some (.inl m) ∧ M' = zt M (sCome σ lane slime)) 40 [(4, .inl c), (3, .inl m), (0, .inr (some 187)), (1, .inl lane), (2, .inl slime)] [] (zt M τ2) := by
          intro n
          induction n with
          | zero => intro c τ2 hc hcn he2; exfalso; omega
          | succ n ih =>
            intro c τ2 hc hcn he2
            refine z_iload dX5_comes_40 rfl ?_
            refine z_bipush dX5_comes_42 (by decide) ?_
            refine z_icmp_gt (tgt := 87) dX5_comes_44 (by decide) (by omega) (by omega) (fun c44 => ?_) (fun c44 => ?_)
            · rw [zfor_end (by omega)] at he2
              refine z_aload_n dX5_comes_87 rfl ?_
              refine z_getR (b := 188) dX5_comes_88 fX5_7 (by decide) zsh187 rfl rfl ?_
              refine z_iload_n dX5_comes_91 rfl ?_
              refine z_iconst dX5_comes_92 ?_
              refine z_callS mX5_of vX5_of rfl dX5_comes_93 kX5_40 (by decide) rfl (by show _ ≤ 8; simp) (fun v93 M93 q93 => ?_)
              obtain ⟨rfl, rfl⟩ := q93
              try simp only [zpush]
              refine z_iload_n dX5_comes_96 rfl ?_
              refine z_sstore dX5_comes_97 (by omega) (fun σ97 hσ97 => ?_)
              refine z_aload_n dX5_comes_98 rfl ?_
              refine z_getR (b := 188) dX5_comes_99 fX5_7 (by decide) zsh187 rfl rfl ?_
              refine z_iload_n dX5_comes_102 rfl ?_
              refine z_iconst dX5_comes_103 ?_
              refine z_callS mX5_of vX5_of rfl dX5_comes_104 kX5_40 (by decide) rfl (by show _ ≤ 8; simp) (fun v104 M104 q104 => ?_)
              obtain ⟨rfl, rfl⟩ := q104
              try simp only [zpush]
              refine z_iload_n dX5_comes_107 rfl ?_
              refine z_sstore dX5_comes_108 (by omega) (fun σ108 hσ108 => ?_)
              refine z_aload_n dX5_comes_109 rfl ?_
              refine z_getR (b := 188) dX5_comes_110 fX5_7 (by decide) zsh187 rfl rfl ?_
              refine z_sipush dX5_comes_113 (by decide) ?_
              refine z_dup2 dX5_comes_116 ?_
              refine z_sload dX5_comes_117 (by omega) ?_
              refine z_iconst dX5_comes_118 ?_
              refine z_iadd dX5_comes_119 ?_
              refine z_sstore dX5_comes_120 (by omega) (fun σ120 hσ120 => ?_)
              refine z_iload_n dX5_comes_121 rfl ?_
              refine z_iret dX5_comes_122 rfl ?_
              refine ⟨rfl, ?_⟩
              unfold sCome sComeD sComeC
              rw [hm, ← he2, hσ120, hσ108, hσ97]
            · refine z_aload_n dX5_comes_47 rfl ?_
              refine z_getR (b := 188) dX5_comes_48 fX5_7 (by decide) zsh187 rfl rfl ?_
              refine z_sipush dX5_comes_51 (by decide) ?_
              refine z_bipush dX5_comes_54 (by decide) ?_
              refine z_iload_n dX5_comes_56 rfl ?_
              refine z_imul dX5_comes_57 ?_
              refine z_iadd dX5_comes_58 ?_
              refine z_iload dX5_comes_59 rfl ?_
              refine z_iadd dX5_comes_61 ?_
              refine z_iconst dX5_comes_62 ?_
              refine z_sstore dX5_comes_63 (by omega) (fun σ63 hσ63 => ?_)
              refine z_aload_n dX5_comes_64 rfl ?_
              refine z_getR (b := 188) dX5_comes_65 fX5_7 (by decide) zsh187 rfl rfl ?_
              refine z_sipush dX5_comes_68 (by decide) ?_
              refine z_bipush dX5_comes_71 (by decide) ?_
              refine z_iload dX5_comes_73 rfl ?_
              refine z_imul dX5_comes_75 ?_
              refine z_iadd dX5_comes_76 ?_
              refine z_iload_n dX5_comes_77 rfl ?_
              refine z_iadd dX5_comes_78 ?_
              refine z_iconst dX5_comes_79 ?_
              refine z_sstore dX5_comes_80 (by omega) (fun σ80 hσ80 => ?_)
              refine z_iinc dX5_comes_81 rfl (by decide) ?_
              refine z_goto (tgt := 40) dX5_comes_84 (by decide) ?_
              rw [zfor_step (by omega)] at he2
              exact zsub' (ih (c + 1) σ80 (by omega) (by omega) (by rw [hσ80, hσ63]; exact he2)) ⟨rfl, rfl, rfl, rfl, rfl, trivial⟩
        exact zsub' (L2 10 0 τ (by omega) (by omega) (by rw [he]; rfl)) ⟨rfl, rfl, rfl, rfl, rfl, trivial⟩
      · refine z_aload_n dX5_comes_19 rfl ?_
        refine z_getR (b := 188) dX5_comes_20 fX5_7 (by decide) zsh187 rfl rfl ?_
        refine z_iload_n dX5_comes_23 rfl ?_
        refine z_iload dX5_comes_24 rfl ?_
        refine z_callS mX5_of vX5_of rfl dX5_comes_26 kX5_40 (by decide) rfl (by show _ ≤ 8; simp) (fun v26 M26 q26 => ?_)
        obtain ⟨rfl, rfl⟩ := q26
        try simp only [zpush]
        refine z_iconst dX5_comes_29 ?_
        refine z_sstore dX5_comes_30 (by omega) (fun σ30 hσ30 => ?_)
        refine z_iinc dX5_comes_31 rfl (by decide) ?_
        refine z_goto (tgt := 12) dX5_comes_34 (by decide) ?_
        rw [zfor_step (by omega)] at he
        exact zsub' (ih (c + 1) σ30 (by omega) (by omega) (by rw [hσ30]; exact he)) ⟨rfl, rfl, rfl, rfl, rfl, trivial⟩
  exact zsub' (L 11 0 σ (by omega) (by omega) rfl) ⟨rfl, rfl, rfl, rfl, rfl, trivial⟩

theorem vX5_freezes {G : zG} {M : zM} {σ : zS} {lane row f : Int} (hl : 0 ≤ lane ∧ lane ≤ 5) (hr : 0 ≤ row ∧ row ≤ 19) : zCall G yX5_freezes YX5_freezes [.inr (some 187), .inl lane, .inl row, .inl f] (zt M σ) (fun v M' => v = some (.inl (σ (6 * row + lane))) ∧ M' = zt M (sFz σ (6 * row + lane) f)) := by
  refine zEnter (by decide +kernel) rfl (Nat.le_of_ble_eq_true rfl) ?_
  refine z_iload_n dX5_freezes_0 rfl ?_
  refine z_iload_n dX5_freezes_1 rfl ?_
  refine z_callS mX5_at vX5_at rfl dX5_freezes_2 kX5_70 (by decide) rfl (by show _ ≤ 8; simp) (fun v2 M2 q2 => ?_)
  obtain ⟨rfl, rfl⟩ := q2
  try simp only [zpush]
  refine z_istore dX5_freezes_5 (by decide) ?_
  refine z_aload_n dX5_freezes_7 rfl ?_
  refine z_getR (b := 188) dX5_freezes_8 fX5_7 (by decide) zsh187 rfl rfl ?_
  refine z_iconst dX5_freezes_11 ?_
  refine z_iload dX5_freezes_12 rfl ?_
  refine z_iadd dX5_freezes_14 ?_
  refine z_sload dX5_freezes_15 (by omega) ?_
  refine z_istore dX5_freezes_16 (by decide) ?_
  refine z_aload_n dX5_freezes_18 rfl ?_
  refine z_getR (b := 188) dX5_freezes_19 fX5_7 (by decide) zsh187 rfl rfl ?_
  refine z_iconst dX5_freezes_22 ?_
  refine z_iload dX5_freezes_23 rfl ?_
  refine z_iadd dX5_freezes_25 ?_
  refine z_iload_n dX5_freezes_26 rfl ?_
  refine z_sstore dX5_freezes_27 (by omega) (fun σ27 hσ27 => ?_)
  refine z_aload_n dX5_freezes_28 rfl ?_
  refine z_getR (b := 188) dX5_freezes_29 fX5_7 (by decide) zsh187 rfl rfl ?_
  refine z_bipush dX5_freezes_32 (by decide) ?_
  refine z_iload dX5_freezes_34 rfl ?_
  refine z_iadd dX5_freezes_36 ?_
  refine z_iconst dX5_freezes_37 ?_
  refine z_sstore dX5_freezes_38 (by omega) (fun σ38 hσ38 => ?_)
  refine z_aload_n dX5_freezes_39 rfl ?_
  refine z_getR (b := 188) dX5_freezes_40 fX5_7 (by decide) zsh187 rfl rfl ?_
  refine z_sipush dX5_freezes_43 (by decide) ?_
  refine z_iload dX5_freezes_46 rfl ?_
  refine z_iadd dX5_freezes_48 ?_
  refine z_iconst dX5_freezes_49 ?_
  refine z_sstore dX5_freezes_50 (by omega) (fun σ50 hσ50 => ?_)
  refine z_iload dX5_freezes_51 rfl ?_
  refine z_iret dX5_freezes_53 rfl ?_
  rw [Int.zero_add] at hσ27
  exact ⟨by rw [Int.zero_add], by unfold sFz; rw [hσ50, hσ38, hσ27]⟩

theorem vX5_barFrost {G : zG} {M : zM} {σ : zS} {lane row f : Int} (hlane : -2147483648 ≤ lane ∧ lane < 2147483648) (hrow : -2147483648 ≤ row ∧ row < 2147483648) (hf : -2147483648 ≤ f ∧ f < 2147483648) (hI : zI σ) : zCall G yX5_barFrost YX5_barFrost [.inr (some 187), .inl lane, .inl row, .inl f] (zt M σ) (fun v M' => zt M σ = M' ∧ v = some (.inl (sBarF σ lane row f))) := by
  refine zEnter (by decide +kernel) rfl (Nat.le_of_ble_eq_true rfl) ?_
  refine z_iload_n dX5_barFrost_0 rfl ?_
  refine z_iload_n dX5_barFrost_1 rfl ?_
  refine z_callS mX5_isCell (vX5_isCell (by omega) (by omega)) rfl dX5_barFrost_2 kX5_66 (by decide) rfl (by show _ ≤ 8; simp) (fun v2 M2 q2 => ?_)
  obtain ⟨rfl, b2, rfl, h2⟩ := q2
  try simp only [zpush]
  refine z_if_ne (tgt := 12) dX5_barFrost_5 (by decide) (by omega) (fun c5 => ?_) (fun c5 => ?_)
  · refine z_iload_n dX5_barFrost_12 rfl ?_
    refine z_iconst dX5_barFrost_13 ?_
    refine z_bipush dX5_barFrost_14 (by decide) ?_
    refine z_callS mX5_in (vX5_in (by omega) (by omega) (by omega)) rfl dX5_barFrost_16 kX5_32 (by decide) rfl (by show _ ≤ 8; simp) (fun v16 M16 q16 => ?_)
    obtain ⟨rfl, b16, rfl, h16⟩ := q16
    try simp only [zpush]
    refine z_if_ne (tgt := 27) dX5_barFrost_19 (by decide) (by omega) (fun c19 => ?_) (fun c19 => ?_)
    · refine z_aload_n dX5_barFrost_27 rfl ?_
      refine z_getR (b := 188) dX5_barFrost_28 fX5_7 (by decide) zsh187 rfl rfl ?_
      refine z_iconst dX5_barFrost_31 ?_
      refine z_iload_n dX5_barFrost_32 rfl ?_
      have hc9 := hI.2.1 (6 * row + lane) (by omega) (by omega)
      unfold zIc at hc9
      refine z_iload_n dX5_barFrost_33 rfl ?_
      refine z_callS mX5_at vX5_at rfl dX5_barFrost_34 kX5_70 (by decide) rfl (by show _ ≤ 8; simp) (fun v34 M34 q34 => ?_)
      obtain ⟨rfl, rfl⟩ := q34
      try simp only [zpush]
      refine z_iadd dX5_barFrost_37 ?_
      rw [Int.zero_add]
      refine z_sload dX5_barFrost_38 (by omega) ?_
      refine z_iload_n dX5_barFrost_39 rfl ?_
      refine z_icmp_ne (tgt := 64) dX5_barFrost_40 (by decide) (by omega) (by omega) (fun c40 => ?_) (fun c40 => ?_)
      · refine z_iconst dX5_barFrost_64 ?_
        refine z_iret dX5_barFrost_65 rfl ?_
        refine ⟨rfl, ?_⟩
        unfold sBarF
        congr 2
        repeat' split
        all_goals first | rfl | omega
      · refine z_aload_n dX5_barFrost_43 rfl ?_
        refine z_getR (b := 188) dX5_barFrost_44 fX5_7 (by decide) zsh187 rfl rfl ?_
        refine z_bipush dX5_barFrost_47 (by decide) ?_
        refine z_iload_n dX5_barFrost_49 rfl ?_
        refine z_iload_n dX5_barFrost_50 rfl ?_
        refine z_callS mX5_at vX5_at rfl dX5_barFrost_51 kX5_70 (by decide) rfl (by show _ ≤ 8; simp) (fun v51 M51 q51 => ?_)
        obtain ⟨rfl, rfl⟩ := q51
        try simp only [zpush]
        refine z_iadd dX5_barFrost_54 ?_
        refine z_sload dX5_barFrost_55 (by omega) ?_
        refine z_if_ne (tgt := 64) dX5_barFrost_56 (by decide) (by omega) (fun c56 => ?_) (fun c56 => ?_)
        · refine z_iconst dX5_barFrost_64 ?_
          refine z_iret dX5_barFrost_65 rfl ?_
          refine ⟨rfl, ?_⟩
          unfold sBarF
          congr 2
          repeat' split
          all_goals first | rfl | omega
        · refine z_bipush dX5_barFrost_59 (by decide) ?_
          refine z_goto (tgt := 65) dX5_barFrost_61 (by decide) ?_
          refine z_iret dX5_barFrost_65 rfl ?_
          refine ⟨rfl, ?_⟩
          unfold sBarF
          congr 2
          repeat' split
          all_goals first | rfl | omega
    · refine z_bipush dX5_barFrost_22 (by decide) ?_
      refine z_goto (tgt := 65) dX5_barFrost_24 (by decide) ?_
      refine z_iret dX5_barFrost_65 rfl ?_
      refine ⟨rfl, ?_⟩
      unfold sBarF
      congr 2
      repeat' split
      all_goals first | rfl | omega
  · refine z_iconst dX5_barFrost_8 ?_
    refine z_goto (tgt := 65) dX5_barFrost_9 (by decide) ?_
    refine z_iret dX5_barFrost_65 rfl ?_
    refine ⟨rfl, ?_⟩
    unfold sBarF
    congr 2
    repeat' split
    all_goals first | rfl | omega

theorem vX5_barPass {G : zG} {M : zM} {σ : zS} {t : Int} (ht : -2147483648 ≤ t ∧ t < 2147483648) (ht : 0 ≤ σ 536 ∧ σ 536 ≤ 1000000) : zCall G yX5_barPass YX5_barPass [.inr (some 187), .inl t] (zt M σ) (fun v M' => zt M σ = M' ∧ v = some (.inl (sBarT σ t))) := by
  refine zEnter (by decide +kernel) rfl (Nat.le_of_ble_eq_true rfl) ?_
  refine z_iload_n dX5_barPass_0 rfl ?_
  refine z_iconst dX5_barPass_1 ?_
  refine z_bipush dX5_barPass_2 (by decide) ?_
  refine z_callS mX5_in (vX5_in (by omega) (by omega) (by omega)) rfl dX5_barPass_4 kX5_32 (by decide) rfl (by show _ ≤ 8; simp) (fun v4 M4 q4 => ?_)
  obtain ⟨rfl, b4, rfl, h4⟩ := q4
  try simp only [zpush]
  refine z_if_ne (tgt := 15) dX5_barPass_7 (by decide) (by omega) (fun c7 => ?_) (fun c7 => ?_)
  · refine z_aload_n dX5_barPass_15 rfl ?_
    refine z_getR (b := 188) dX5_barPass_16 fX5_7 (by decide) zsh187 rfl rfl ?_
    refine z_sipush dX5_barPass_19 (by decide) ?_
    refine z_sload dX5_barPass_22 (by omega) ?_
    refine z_iload_n dX5_barPass_23 rfl ?_
    refine z_iadd dX5_barPass_24 ?_
    refine z_ldc (n := 99999) dX5_barPass_25 qX5_106 ?_
    refine z_icmp_le (tgt := 35) dX5_barPass_27 (by decide) (by omega) (by omega) (fun c27 => ?_) (fun c27 => ?_)
    · refine z_iconst dX5_barPass_35 ?_
      refine z_iret dX5_barPass_36 rfl ?_
      refine ⟨rfl, ?_⟩
      unfold sBarT
      congr 2
      repeat' split
      all_goals first | rfl | omega
    · refine z_bipush dX5_barPass_30 (by decide) ?_
      refine z_goto (tgt := 36) dX5_barPass_32 (by decide) ?_
      refine z_iret dX5_barPass_36 rfl ?_
      refine ⟨rfl, ?_⟩
      unfold sBarT
      congr 2
      repeat' split
      all_goals first | rfl | omega
  · refine z_bipush dX5_barPass_10 (by decide) ?_
    refine z_goto (tgt := 36) dX5_barPass_12 (by decide) ?_
    refine z_iret dX5_barPass_36 rfl ?_
    refine ⟨rfl, ?_⟩
    unfold sBarT
    congr 2
    repeat' split
    all_goals first | rfl | omega

theorem vX5_passes {G : zG} {M : zM} {σ : zS} {t : Int} (hA : zA σ) (hB : 0 ≤ σ 536 ∧ σ 536 ≤ 900000) (ht : 0 ≤ t ∧ t ≤ 99) : zCall G yX5_passes YX5_passes [.inr (some 187), .inl t] (zt M σ) (fun v M' => v = some (.inl (sTs t σ 537 - σ 537)) ∧ M' = zt M (sTs t σ)) := by
  refine zEnter (by decide +kernel) rfl (Nat.le_of_ble_eq_true rfl) ?_
  refine z_aload_n dX5_passes_0 rfl ?_
  refine z_getR (b := 188) dX5_passes_1 fX5_7 (by decide) zsh187 rfl rfl ?_
  refine z_sipush dX5_passes_4 (by decide) ?_
  refine z_sload dX5_passes_7 (by omega) ?_
  refine z_istore_n dX5_passes_8 (by decide) ?_
  refine z_iconst dX5_passes_9 ?_
  refine z_istore_n dX5_passes_10 (by decide) ?_
  have L : ∀ (n : Nat) (i : Int) (τ : zS), (0 ≤ i ∧ i ≤ t) → (i + n = t + 1) → (zA τ) → (τ 536 = σ 536 + i) → (zfor (fun _ s => sTurn s) i t τ = sTs t σ) → zW G YX5_passes (fun v M' => v = some (.inl (sTs t σ 537 - σ 537)) ∧ M' = zt M (sTs t σ)) 11 [(3, .inl i), (2, .inl (σ 537)), (0, .inr (some 187)), (1, .inl t)] [] (zt M τ) := by
    intro n
    induction n with
    | zero => intro i τ hc hcn hA2 h6 he; exfalso; omega
    | succ n ih =>
      intro i τ hc hcn hA2 h6 he
      refine z_iload_n dX5_passes_11 rfl ?_
      refine z_iload_n dX5_passes_12 rfl ?_
      refine z_icmp_ge (tgt := 26) dX5_passes_13 (by decide) (by omega) (by omega) (fun c13 => ?_) (fun c13 => ?_)
      · rw [zfor_end (by omega)] at he
        refine z_aload_n dX5_passes_26 rfl ?_
        refine z_getR (b := 188) dX5_passes_27 fX5_7 (by decide) zsh187 rfl rfl ?_
        refine z_sipush dX5_passes_30 (by decide) ?_
        refine z_sload dX5_passes_33 (by omega) ?_
        refine z_iload_n dX5_passes_34 rfl ?_
        refine z_isub dX5_passes_35 ?_
        refine z_iret dX5_passes_36 rfl ?_
        exact ⟨by rw [he], by rw [he]⟩
      · refine z_aload_n dX5_passes_16 rfl ?_
        refine z_callV mX5_turn (vX5_turn hA2 (by omega)) rfl dX5_passes_17 kX5_103 (by decide) rfl (by show _ ≤ 8; simp) (by decide) zsh187 (by decide) rfl (fun v17 M17 q17 => ?_)
        obtain ⟨rfl, rfl⟩ := q17
        try simp only [zpush]
        refine z_iinc dX5_passes_20 rfl (by decide) ?_
        refine z_goto (tgt := 11) dX5_passes_23 (by decide) ?_
        rw [zfor_step (by omega)] at he
        have hA3 := zA_turn hA2
        exact zsub' (ih (i + 1) (sTurn τ) (by omega) (by omega) hA3.1 (by rw [hA3.2.1]; omega) he) ⟨rfl, rfl, rfl, rfl, trivial⟩
  exact zsub' (L (t + 1).toNat 0 σ (by omega) (by omega) hA (by omega) rfl) ⟨rfl, rfl, rfl, rfl, trivial⟩

theorem vX5_ends {G : zG} {M : zM} {σ : zS} {k : Int} (hA : zA σ) (hB : 0 ≤ σ 536 ∧ σ 536 ≤ 900000) (hk : 0 ≤ k ∧ k < 9) : zCall G yX5_ends YX5_ends [.inr (some 187), .inl k] (zt M σ) (fun v M' => v = some (.inl (sEnds k 0 σ)) ∧ ∃ σ' : zS, M' = zt M σ' ∧ zo σ σ') := by
  refine zEnter (by decide +kernel) rfl (Nat.le_of_ble_eq_true rfl) ?_
  refine z_iconst dX5_ends_0 ?_
  refine z_istore_n dX5_ends_1 (by decide) ?_
  have L : ∀ (n : Nat) (i : Int) (τ : zS), (0 ≤ i ∧ i ≤ 300) → (i + n = 301) → (zA τ) → (τ 536 = σ 536 + i) → (zo σ τ) → (sEnds k i τ = sEnds k 0 σ) → zW G YX5_ends (fun v M' => v = some (.inl (sEnds k 0 σ)) ∧ ∃ σ' : zS, M' = zt M σ' ∧ zo σ σ') 2 [(2, .inl i), (0, .inr (some 187)), (1, .inl k)] [] (zt M τ) := by
    intro n
    induction n with
    | zero => intro i τ hc hcn hA2 h6 h7 he; exfalso; omega
    | succ n ih =>
      intro i τ hc hcn hA2 h6 h7 he
      refine z_aload_n dX5_ends_2 rfl ?_
      have hk9 := hA2.1.2.2 k hk.1 hk.2
      unfold zIk at hk9
      refine z_getR (b := 188) dX5_ends_3 fX5_7 (by decide) zsh187 rfl rfl ?_
      refine z_iload_n dX5_ends_6 rfl ?_
      refine z_iconst dX5_ends_7 ?_
      refine z_callS mX5_of vX5_of rfl dX5_ends_8 kX5_40 (by decide) rfl (by show _ ≤ 8; simp) (fun v8 M8 q8 => ?_)
      obtain ⟨rfl, rfl⟩ := q8
      try simp only [zpush]
      refine z_sload dX5_ends_11 (by omega) ?_
      refine z_if_ne (tgt := 32) dX5_ends_12 (by decide) (by omega) (fun c12 => ?_) (fun c12 => ?_)
      · refine z_aload_n dX5_ends_32 rfl ?_
        refine z_getR (b := 188) dX5_ends_33 fX5_7 (by decide) zsh187 rfl rfl ?_
        refine z_iload_n dX5_ends_36 rfl ?_
        refine z_iconst dX5_ends_37 ?_
        refine z_callS mX5_of vX5_of rfl dX5_ends_38 kX5_40 (by decide) rfl (by show _ ≤ 8; simp) (fun v38 M38 q38 => ?_)
        obtain ⟨rfl, rfl⟩ := q38
        try simp only [zpush]
        refine z_sload dX5_ends_41 (by omega) ?_
        refine z_iconst dX5_ends_42 ?_
        refine z_icmp_ne (tgt := 50) dX5_ends_43 (by decide) (by omega) (by omega) (fun c43 => ?_) (fun c43 => ?_)
        · refine z_bipush dX5_ends_50 (by decide) ?_
          refine z_iret dX5_ends_52 rfl ?_
          refine ⟨?_, τ, rfl, h7⟩
          rw [← he]
          by_cases hi : i < 300
          · rw [sEnds_step hi]
            first | (exfalso; omega) | rw [if_neg (by omega), if_pos (by omega)] | rw [if_neg (by omega), if_neg (by omega)]
          · rw [sEnds_end (by omega)]
            first | rw [if_pos (by omega)] | rw [if_neg (by omega)]
        · refine z_iload_n dX5_ends_46 rfl ?_
          refine z_goto (tgt := 52) dX5_ends_47 (by decide) ?_
          refine z_iret dX5_ends_52 rfl ?_
          refine ⟨?_, τ, rfl, h7⟩
          rw [← he]
          by_cases hi : i < 300
          · rw [sEnds_step hi]
            first | (exfalso; omega) | rw [if_neg (by omega), if_pos (by omega)] | rw [if_neg (by omega), if_neg (by omega)]
          · rw [sEnds_end (by omega)]
            first | rw [if_pos (by omega)] | rw [if_neg (by omega)]
      · refine z_iload_n dX5_ends_15 rfl ?_
        refine z_sipush dX5_ends_16 (by decide) ?_
        refine z_icmp_ge (tgt := 32) dX5_ends_19 (by decide) (by omega) (by omega) (fun c19 => ?_) (fun c19 => ?_)
        · refine z_aload_n dX5_ends_32 rfl ?_
          refine z_getR (b := 188) dX5_ends_33 fX5_7 (by decide) zsh187 rfl rfl ?_
          refine z_iload_n dX5_ends_36 rfl ?_
          refine z_iconst dX5_ends_37 ?_
          refine z_callS mX5_of vX5_of rfl dX5_ends_38 kX5_40 (by decide) rfl (by show _ ≤ 8; simp) (fun v38 M38 q38 => ?_)
          obtain ⟨rfl, rfl⟩ := q38
          try simp only [zpush]
          refine z_sload dX5_ends_41 (by omega) ?_
          refine z_iconst dX5_ends_42 ?_
          refine z_icmp_ne (tgt := 50) dX5_ends_43 (by decide) (by omega) (by omega) (fun c43 => ?_) (fun c43 => ?_)
          · refine z_bipush dX5_ends_50 (by decide) ?_
            refine z_iret dX5_ends_52 rfl ?_
            refine ⟨?_, τ, rfl, h7⟩
            rw [← he]
            by_cases hi : i < 300
            · rw [sEnds_step hi]
              first | (exfalso; omega) | rw [if_neg (by omega), if_pos (by omega)] | rw [if_neg (by omega), if_neg (by omega)]
            · rw [sEnds_end (by omega)]
              first | rw [if_pos (by omega)] | rw [if_neg (by omega)]
          · refine z_iload_n dX5_ends_46 rfl ?_
            refine z_goto (tgt := 52) dX5_ends_47 (by decide) ?_
            refine z_iret dX5_ends_52 rfl ?_
            refine ⟨?_, τ, rfl, h7⟩
            rw [← he]
            by_cases hi : i < 300
            · rw [sEnds_step hi]
              first | (exfalso; omega) | rw [if_neg (by omega), if_pos (by omega)] | rw [if_neg (by omega), if_neg (by omega)]
            · rw [sEnds_end (by omega)]
              first | rw [if_pos (by omega)] | rw [if_neg (by omega)]
        · refine z_aload_n dX5_ends_22 rfl ?_
          refine z_callV mX5_turn (vX5_turn hA2 (by omega)) rfl dX5_ends_23 kX5_103 (by decide) rfl (by show _ ≤ 8; simp) (by decide) zsh187 (by decide) rfl (fun v23 M23 q23 => ?_)
          obtain ⟨rfl, rfl⟩ := q23
          try simp only [zpush]
          refine z_iinc dX5_ends_26 rfl (by decide) ?_
          refine z_goto (tgt := 2) dX5_ends_29 (by decide) ?_
          rw [sEnds_step (by omega), if_pos (by omega)] at he
          have hA3 := zA_turn hA2
          exact zsub' (ih (i + 1) (sTurn τ) (by omega) (by omega) hA3.1 (by rw [hA3.2.1]; omega) (h7.tr (zo_turn hA2)) he) ⟨rfl, rfl, rfl, trivial⟩
  exact zsub' (L 301 0 σ (by omega) (by omega) hA (by omega) (zo.rf σ) rfl) ⟨rfl, rfl, rfl, trivial⟩
