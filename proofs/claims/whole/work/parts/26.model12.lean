theorem vX5_perform {G : zG} {M : zM} {σ : zS} (hB : zB σ) (hX : zTx M) (hp : 0 ≤ M 187 3 ∧ M 187 3 ≤ 4) : zCall G yX5_perform YX5_perform [.inr (some 187)] (zt M σ) (fun v M' => (¬ (pR (M 192) (M 187 7) 0 0).1.1 = 0 ∧ v = some (.inl (-100 - (pR (M 192) (M 187 7) 0 0).1.2)) ∧ ∃ N : zM, M' = zt N σ ∧ zPk M N) ∨ ((pR (M 192) (M 187 7) 0 0).1.1 = 0 ∧ ¬ (pD (M 192) (M 187 7) (pR (M 192) (M 187 7) 0 0).2.toNat 0 0 σ).1.1 = 0 ∧ v = some (.inl (-4)) ∧ ∃ N : zM, M' = zt N σ ∧ (∀ a : Int, a ≠ 187 → a ≠ 189 → N a = M a) ∧ (∀ j : Int, (j < 8 ∨ 17 ≤ j) → N 187 j = M 187 j) ∧ N 187 8 = 1 ∧ N 187 9 = (pD (M 192) (M 187 7) (pR (M 192) (M 187 7) 0 0).2.toNat 0 0 σ).1.2 ∧ N 187 10 = (pD (M 192) (M 187 7) (pR (M 192) (M 187 7) 0 0).2.toNat 0 0 σ).1.1) ∨ ((pR (M 192) (M 187 7) 0 0).1.1 = 0 ∧ (pD (M 192) (M 187 7) (pR (M 192) (M 187 7) 0 0).2.toNat 0 0 σ).1.1 = 0 ∧ v = some (.inl (pR (M 192) (M 187 7) 0 0).2) ∧ ∃ N0 N1 : zM, M' = zt N1 (pD (M 192) (M 187 7) (pR (M 192) (M 187 7) 0 0).2.toNat 0 0 σ).2 ∧ (∀ a : Int, a ≠ 187 → a ≠ 189 → N0 a = M a) ∧ (∀ j : Int, (j < 11 ∨ 17 ≤ j) → N0 187 j = M 187 j) ∧ zRec N0 σ N1)) := by
  refine zEnter (by decide +kernel) rfl (Nat.le_of_ble_eq_true rfl) ?_
  have hn := hX.1
  have hT := hX.2
  refine z_aload_n dX5_perform_0 rfl ?_
  refine z_callV mX5_things (vX5_things hX) rfl dX5_perform_1 kX5_149 (by decide) rfl (by show _ ≤ 8; simp) (by decide) zsh187 (by decide) rfl (fun v1 M1 q1 => ?_)
  obtain ⟨N1, r1, rfl, rfl, hk1, hs1, hg1, hb1⟩ := q1
  try simp only [zpush]
  have hrr := pG_of (M 192) (M 187 7) 61 0 0 (by omega) (by omega) (by omega)
  have hx01 : (pR (M 192) (M 187 7) 0 0).1.1 = 0 ∨ ¬ (pR (M 192) (M 187 7) 0 0).1.1 = 0 := Classical.em _
  have hr1r : (-5 ≤ r1 ∧ r1 ≤ 1000) := by rcases hx01 with q | q <;> omega
  refine z_istore_n dX5_perform_4 (by decide) ?_
  refine z_iload_n dX5_perform_5 rfl ?_
  refine z_if_ge (tgt := 17) dX5_perform_6 (by decide) (by omega) (fun c6 => ?_) (fun c6 => ?_)
  · have hx0 : (pR (M 192) (M 187 7) 0 0).1.1 = 0 := by rcases hx01 with q | q; exact q; exact absurd (hb1 q) (by omega)
    have hx2 := hg1 hx0
    have hG := (hrr hx0).2.2
    have hx3 := (hrr hx0).1
    rw [Int.sub_zero] at hG
    refine z_aload_n dX5_perform_17 rfl ?_
    refine z_callV mX5_putAside vX5_putAside rfl dX5_perform_18 kX5_152 (by decide) rfl (by show _ ≤ 8; simp) (by decide) zsh187 (by decide) rfl (fun v18 M18 q18 => ?_)
    obtain ⟨rfl, N18, rfl, hP18, hQ18⟩ := q18
    try simp only [zpush]
    refine z_aload_n dX5_perform_21 rfl ?_
    refine z_iconst dX5_perform_22 ?_
    refine z_oput (kI := 11) dX5_perform_23 fX5_116 rfl (Or.inl rfl) (by decide) (by decide) zsh187 rfl rfl (fun N23 hN23 => ?_)
    refine z_iconst dX5_perform_26 ?_
    refine z_istore_n dX5_perform_27 (by decide) ?_
    refine z_iconst dX5_perform_28 ?_
    refine z_istore_n dX5_perform_29 (by decide) ?_
    have J : ∀ (B d : Int) (ρ : zS) (N : zM), ((pD (M 192) (M 187 7) (pR (M 192) (M 187 7) 0 0).2.toNat 0 0 σ).1.1 = B ∧ (pD (M 192) (M 187 7) (pR (M 192) (M 187 7) 0 0).2.toNat 0 0 σ).1.2 = d ∧ (pD (M 192) (M 187 7) (pR (M 192) (M 187 7) 0 0).2.toNat 0 0 σ).2 = ρ) → (-5 ≤ B ∧ B ≤ 0) → (B = 0 → d = r1) → (0 ≤ d ∧ d ≤ r1) → (∀ a : Int, a ≠ 187 → a ≠ 189 → N a = M a) → (∀ j : Int, (j < 11 ∨ 17 ≤ j) → N 187 j = M 187 j) → (∀ j : Int, 0 ≤ j → j < 538 → N 189 j = σ j) → zo σ ρ → zW G YX5_perform (fun v M' => (¬ (pR (M 192) (M 187 7) 0 0).1.1 = 0 ∧ v = some (.inl (-100 - (pR (M 192) (M 187 7) 0 0).1.2)) ∧ ∃ N : zM, M' = zt N σ ∧ zPk M N) ∨ ((pR (M 192) (M 187 7) 0 0).1.1 = 0 ∧ ¬ (pD (M 192) (M 187 7) (pR (M 192) (M 187 7) 0 0).2.toNat 0 0 σ).1.1 = 0 ∧ v = some (.inl (-4)) ∧ ∃ N : zM, M' = zt N σ ∧ (∀ a : Int, a ≠ 187 → a ≠ 189 → N a = M a) ∧ (∀ j : Int, (j < 8 ∨ 17 ≤ j) → N 187 j = M 187 j) ∧ N 187 8 = 1 ∧ N 187 9 = (pD (M 192) (M 187 7) (pR (M 192) (M 187 7) 0 0).2.toNat 0 0 σ).1.2 ∧ N 187 10 = (pD (M 192) (M 187 7) (pR (M 192) (M 187 7) 0 0).2.toNat 0 0 σ).1.1) ∨ ((pR (M 192) (M 187 7) 0 0).1.1 = 0 ∧ (pD (M 192) (M 187 7) (pR (M 192) (M 187 7) 0 0).2.toNat 0 0 σ).1.1 = 0 ∧ v = some (.inl (pR (M 192) (M 187 7) 0 0).2) ∧ ∃ N0 N1 : zM, M' = zt N1 (pD (M 192) (M 187 7) (pR (M 192) (M 187 7) 0 0).2.toNat 0 0 σ).2 ∧ (∀ a : Int, a ≠ 187 → a ≠ 189 → N0 a = M a) ∧ (∀ j : Int, (j < 11 ∨ 17 ≤ j) → N0 187 j = M 187 j) ∧ zRec N0 σ N1)) 73 [(2, .inl B), (3, .inl d), (0, .inr (some 187)), (1, .inl r1)] [] (zt N ρ) := by
      intro B d ρ N hY hBr hdn hd0 hNa hNj hN9 hzo
      refine z_iload_n dX5_perform_73 rfl ?_
      refine z_if_ge (tgt := 99) dX5_perform_74 (by decide) (by omega) (fun c74 => ?_) (fun c74 => ?_)
      · refine z_iconst dX5_perform_99 ?_
        refine z_istore dX5_perform_100 (by decide) ?_
        have L6 : ∀ (n : Nat) (c : Int) (τ : zS) (N1 : zM), (0 ≤ c ∧ c ≤ 538) → (c + n = 539) → (∀ j : Int, 0 ≤ j → j < c → τ j = σ j ∧ N1 189 j = ρ j) → (∀ j : Int, (j < 0 ∨ c ≤ j) → τ j = ρ j ∧ N1 189 j = N 189 j) → (∀ a : Int, a ≠ 189 → N1 a = N a) → zW G YX5_perform (fun v M' => (¬ (pR (M 192) (M 187 7) 0 0).1.1 = 0 ∧ v = some (.inl (-100 - (pR (M 192) (M 187 7) 0 0).1.2)) ∧ ∃ N : zM, M' = zt N σ ∧ zPk M N) ∨ ((pR (M 192) (M 187 7) 0 0).1.1 = 0 ∧ ¬ (pD (M 192) (M 187 7) (pR (M 192) (M 187 7) 0 0).2.toNat 0 0 σ).1.1 = 0 ∧ v = some (.inl (-4)) ∧ ∃ N : zM, M' = zt N σ ∧ (∀ a : Int, a ≠ 187 → a ≠ 189 → N a = M a) ∧ (∀ j : Int, (j < 8 ∨ 17 ≤ j) → N 187 j = M 187 j) ∧ N 187 8 = 1 ∧ N 187 9 = (pD (M 192) (M 187 7) (pR (M 192) (M 187 7) 0 0).2.toNat 0 0 σ).1.2 ∧ N 187 10 = (pD (M 192) (M 187 7) (pR (M 192) (M 187 7) 0 0).2.toNat 0 0 σ).1.1) ∨ ((pR (M 192) (M 187 7) 0 0).1.1 = 0 ∧ (pD (M 192) (M 187 7) (pR (M 192) (M 187 7) 0 0).2.toNat 0 0 σ).1.1 = 0 ∧ v = some (.inl (pR (M 192) (M 187 7) 0 0).2) ∧ ∃ N0 N1 : zM, M' = zt N1 (pD (M 192) (M 187 7) (pR (M 192) (M 187 7) 0 0).2.toNat 0 0 σ).2 ∧ (∀ a : Int, a ≠ 187 → a ≠ 189 → N0 a = M a) ∧ (∀ j : Int, (j < 11 ∨ 17 ≤ j) → N0 187 j = M 187 j) ∧ zRec N0 σ N1)) 102 [(4, .inl c), (0, .inr (some 187)), (1, .inl r1)] [] (zt N1 τ) := by
          intro n
          induction n with
          | zero => intro c τ N1 hc hcn g1 g2 g3; exfalso; omega
          | succ n ih =>
            intro c τ N1 hc hcn g1 g2 g3
            refine z_iload dX5_perform_102 rfl ?_
            refine z_sipush dX5_perform_104 (by decide) ?_
            refine z_icmp_ge (tgt := 148) dX5_perform_107 (by decide) (by omega) (by omega) (fun c107 => ?_) (fun c107 => ?_)
            · have hp3 : N1 187 3 = M 187 3 := by rw [g3 187 (by decide)]; exact hNj 3 (by omega)
              refine z_aload_n dX5_perform_148 rfl ?_
              refine z_callV mX5_records (vX5_records (by omega)) rfl dX5_perform_149 kX5_57 (by decide) rfl (by show _ ≤ 8; simp) (by decide) zsh187 (by decide) rfl (fun v149 M149 q149 => ?_)
              obtain ⟨rfl, N149, rfl, hR149⟩ := q149
              try simp only [zpush]
              refine z_aload_n dX5_perform_152 rfl ?_
              refine z_callV mX5_putBack vX5_putBack rfl dX5_perform_153 kX5_158 (by decide) rfl (by show _ ≤ 8; simp) (by decide) zsh187 (by decide) rfl (fun v153 M153 q153 => ?_)
              obtain ⟨rfl, σ153, rfl, hB153, hO153⟩ := q153
              try simp only [zpush]
              refine z_iload_n dX5_perform_156 rfl ?_
              refine z_iret dX5_perform_157 rfl ?_
              have es : τ = σ := by
                funext j
                by_cases hj : 0 ≤ j ∧ j < 538
                · exact (g1 j hj.1 (by omega)).1
                · rw [(g2 j (by omega)).1, hzo j (by omega)]
              have er : σ153 = ρ := by
                funext j
                by_cases hj : 0 ≤ j ∧ j < 538
                · rw [hB153 j hj.1 hj.2, (zRec_off hR149).1 189 (by decide) (by decide), (g1 j hj.1 (by omega)).2]
                · rw [hO153 j (by omega), es, hzo j (by omega)]
              have hB0 : B = 0 := by omega
              refine Or.inr (Or.inr ⟨hx0, by omega, by rw [hx2.1], N1, N149, by rw [hY.2.2, er], fun a q1 q2 => by rw [g3 a q2]; exact hNa a q1 q2, fun j q => by rw [g3 187 (by decide)]; exact hNj j q, by rw [es] at hR149; exact hR149⟩)
            · refine z_aload_n dX5_perform_110 rfl ?_
              refine z_getR (b := 188) dX5_perform_111 fX5_7 (by decide) zsh187 rfl rfl ?_
              refine z_iload dX5_perform_114 rfl ?_
              refine z_sload dX5_perform_116 (by omega) ?_
              refine z_istore dX5_perform_117 (by decide) ?_
              refine z_aload_n dX5_perform_119 rfl ?_
              refine z_getR (b := 188) dX5_perform_120 fX5_7 (by decide) zsh187 rfl rfl ?_
              refine z_iload dX5_perform_123 rfl ?_
              refine z_aload_n dX5_perform_125 rfl ?_
              refine z_getR (b := 189) dX5_perform_126 fX5_13 (by decide) zsh187 rfl rfl ?_
              refine z_iload dX5_perform_129 rfl ?_
              refine z_oload dX5_perform_131 (by decide) (by decide) (zsh189) (by omega) (by decide) ?_
              refine z_sstore dX5_perform_132 (by omega) (fun σ132 hσ132 => ?_)
              refine z_aload_n dX5_perform_133 rfl ?_
              refine z_getR (b := 189) dX5_perform_134 fX5_13 (by decide) zsh187 rfl rfl ?_
              refine z_iload dX5_perform_137 rfl ?_
              refine z_iload dX5_perform_139 rfl ?_
              refine z_ostore dX5_perform_141 (by decide) (by decide) (zsh189) (by omega) (by decide) (fun N141 hN141 => ?_)
              refine z_iinc dX5_perform_142 rfl (by decide) ?_
              refine z_goto (tgt := 102) dX5_perform_145 (by decide) ?_
              exact zsub' (ih (c + 1) σ132 N141 (by omega) (by omega) (fun j q1 q2 => if hj : j = c then ⟨by rw [hσ132, hj, zu_at, (g2 c (by omega)).2]; exact hN9 c (by omega) (by omega), by rw [hN141, hj, zm_up_at, (g2 c (by omega)).1]⟩ else ⟨by rw [hσ132, zu_ne hj]; exact (g1 j q1 (by omega)).1, by rw [hN141, zm_up_ne hj]; exact (g1 j q1 (by omega)).2⟩) (fun j q => ⟨by rw [hσ132, zu_ne (by omega)]; exact (g2 j (by omega)).1, by rw [hN141, zm_up_ne (by omega)]; exact (g2 j (by omega)).2⟩) (fun a ha => by rw [hN141, zm_up_off ha]; exact g3 a ha)) ⟨rfl, rfl, rfl, trivial⟩
        exact zsub' (L6 539 0 ρ N (by omega) (by omega) (fun j q1 q2 => by omega) (fun j _ => ⟨rfl, rfl⟩) (fun a _ => rfl)) ⟨rfl, rfl, rfl, trivial⟩
      · refine z_aload_n dX5_perform_77 rfl ?_
        refine z_callV mX5_putBack vX5_putBack rfl dX5_perform_78 kX5_158 (by decide) rfl (by show _ ≤ 8; simp) (by decide) zsh187 (by decide) rfl (fun v78 M78 q78 => ?_)
        obtain ⟨rfl, σ78, rfl, hB78, hO78⟩ := q78
        try simp only [zpush]
        refine z_aload_n dX5_perform_81 rfl ?_
        refine z_iconst dX5_perform_82 ?_
        refine z_oput (kI := 8) dX5_perform_83 fX5_161 rfl (Or.inr ⟨rfl, by omega⟩) (by decide) (by decide) zsh187 rfl rfl (fun N83 hN83 => ?_)
        refine z_aload_n dX5_perform_86 rfl ?_
        refine z_iload_n dX5_perform_87 rfl ?_
        refine z_oput (kI := 9) dX5_perform_88 fX5_164 rfl (Or.inl rfl) (by decide) (by decide) zsh187 rfl rfl (fun N88 hN88 => ?_)
        refine z_aload_n dX5_perform_91 rfl ?_
        refine z_iload_n dX5_perform_92 rfl ?_
        refine z_oput (kI := 10) dX5_perform_93 fX5_167 rfl (Or.inl rfl) (by decide) (by decide) zsh187 rfl rfl (fun N93 hN93 => ?_)
        refine z_bipush dX5_perform_96 (by decide) ?_
        refine z_iret dX5_perform_98 rfl ?_
        have es : σ78 = σ := by
          funext j
          by_cases hj : 0 ≤ j ∧ j < 538
          · rw [hB78 j hj.1 hj.2, hN9 j hj.1 hj.2]
          · rw [hO78 j (by omega), hzo j (by omega)]
        refine Or.inr (Or.inl ⟨hx0, by omega, rfl, N93, by rw [es], fun a q1 q2 => by rw [hN93, zm_up_off q1, hN88, zm_up_off q1, hN83, zm_up_off q1]; exact hNa a q1 q2, fun j q => by rw [hN93, zm_up_ne (by omega), hN88, zm_up_ne (by omega), hN83, zm_up_ne (by omega)]; exact hNj j (by omega), by rw [hN93, zm_up_ne (by decide), hN88, zm_up_ne (by decide), hN83, zm_up_at], by rw [hN93, zm_up_ne (by decide), hN88, zm_up_at, hY.2.1], by rw [hN93, zm_up_at, hY.1]⟩)
    have J2 : ∀ (B d : Int) (ρ : zS) (N : zM), ¬ B = 0 → ((pD (M 192) (M 187 7) (pR (M 192) (M 187 7) 0 0).2.toNat 0 0 σ).1.1 = B ∧ (pD (M 192) (M 187 7) (pR (M 192) (M 187 7) 0 0).2.toNat 0 0 σ).1.2 = d ∧ (pD (M 192) (M 187 7) (pR (M 192) (M 187 7) 0 0).2.toNat 0 0 σ).2 = ρ) → (-5 ≤ B ∧ B ≤ 0) → (B = 0 → d = r1) → (0 ≤ d ∧ d ≤ r1) → (∀ a : Int, a ≠ 187 → a ≠ 189 → N a = M a) → (∀ j : Int, (j < 11 ∨ 17 ≤ j) → N 187 j = M 187 j) → (∀ j : Int, 0 ≤ j → j < 538 → N 189 j = σ j) → zo σ ρ → zW G YX5_perform (fun v M' => (¬ (pR (M 192) (M 187 7) 0 0).1.1 = 0 ∧ v = some (.inl (-100 - (pR (M 192) (M 187 7) 0 0).1.2)) ∧ ∃ N : zM, M' = zt N σ ∧ zPk M N) ∨ ((pR (M 192) (M 187 7) 0 0).1.1 = 0 ∧ ¬ (pD (M 192) (M 187 7) (pR (M 192) (M 187 7) 0 0).2.toNat 0 0 σ).1.1 = 0 ∧ v = some (.inl (-4)) ∧ ∃ N : zM, M' = zt N σ ∧ (∀ a : Int, a ≠ 187 → a ≠ 189 → N a = M a) ∧ (∀ j : Int, (j < 8 ∨ 17 ≤ j) → N 187 j = M 187 j) ∧ N 187 8 = 1 ∧ N 187 9 = (pD (M 192) (M 187 7) (pR (M 192) (M 187 7) 0 0).2.toNat 0 0 σ).1.2 ∧ N 187 10 = (pD (M 192) (M 187 7) (pR (M 192) (M 187 7) 0 0).2.toNat 0 0 σ).1.1) ∨ ((pR (M 192) (M 187 7) 0 0).1.1 = 0 ∧ (pD (M 192) (M 187 7) (pR (M 192) (M 187 7) 0 0).2.toNat 0 0 σ).1.1 = 0 ∧ v = some (.inl (pR (M 192) (M 187 7) 0 0).2) ∧ ∃ N0 N1 : zM, M' = zt N1 (pD (M 192) (M 187 7) (pR (M 192) (M 187 7) 0 0).2.toNat 0 0 σ).2 ∧ (∀ a : Int, a ≠ 187 → a ≠ 189 → N0 a = M a) ∧ (∀ j : Int, (j < 11 ∨ 17 ≤ j) → N0 187 j = M 187 j) ∧ zRec N0 σ N1)) 30 [(2, .inl B), (3, .inl d), (0, .inr (some 187)), (1, .inl r1)] [] (zt N ρ) := by
      intro B d ρ N hBn hY hBr hdn hd0 hNa hNj hN9 hzo
      refine z_iload_n dX5_perform_30 rfl ?_
      refine z_if_ne (tgt := 73) dX5_perform_31 (by decide) (by omega) (fun c31 => ?_) (fun h => absurd h (by omega))
      exact zsub' (J B d ρ N hY hBr hdn hd0 hNa hNj hN9 hzo) ⟨rfl, rfl, rfl, rfl, trivial⟩
    have L : ∀ (n : Nat) (m : Nat) (d : Int) (ρ : zS) (N : zM), m < n → d + m = r1 → 0 ≤ d → pD (M 192) (M 187 7) m (N 187 11) d ρ = (pD (M 192) (M 187 7) (pR (M 192) (M 187 7) 0 0).2.toNat 0 0 σ) → (m = 0 ∨ pG (M 192) (M 187 7) m (N 187 11)) → N 187 12 = 0 → (∀ a : Int, a ≠ 187 → a ≠ 189 → N a = M a) → (∀ j : Int, (j < 11 ∨ 17 ≤ j) → N 187 j = M 187 j) → (∀ j : Int, 0 ≤ j → j < 538 → N 189 j = σ j) → zB ρ → zo σ ρ → zW G YX5_perform (fun v M' => (¬ (pR (M 192) (M 187 7) 0 0).1.1 = 0 ∧ v = some (.inl (-100 - (pR (M 192) (M 187 7) 0 0).1.2)) ∧ ∃ N : zM, M' = zt N σ ∧ zPk M N) ∨ ((pR (M 192) (M 187 7) 0 0).1.1 = 0 ∧ ¬ (pD (M 192) (M 187 7) (pR (M 192) (M 187 7) 0 0).2.toNat 0 0 σ).1.1 = 0 ∧ v = some (.inl (-4)) ∧ ∃ N : zM, M' = zt N σ ∧ (∀ a : Int, a ≠ 187 → a ≠ 189 → N a = M a) ∧ (∀ j : Int, (j < 8 ∨ 17 ≤ j) → N 187 j = M 187 j) ∧ N 187 8 = 1 ∧ N 187 9 = (pD (M 192) (M 187 7) (pR (M 192) (M 187 7) 0 0).2.toNat 0 0 σ).1.2 ∧ N 187 10 = (pD (M 192) (M 187 7) (pR (M 192) (M 187 7) 0 0).2.toNat 0 0 σ).1.1) ∨ ((pR (M 192) (M 187 7) 0 0).1.1 = 0 ∧ (pD (M 192) (M 187 7) (pR (M 192) (M 187 7) 0 0).2.toNat 0 0 σ).1.1 = 0 ∧ v = some (.inl (pR (M 192) (M 187 7) 0 0).2) ∧ ∃ N0 N1 : zM, M' = zt N1 (pD (M 192) (M 187 7) (pR (M 192) (M 187 7) 0 0).2.toNat 0 0 σ).2 ∧ (∀ a : Int, a ≠ 187 → a ≠ 189 → N0 a = M a) ∧ (∀ j : Int, (j < 11 ∨ 17 ≤ j) → N0 187 j = M 187 j) ∧ zRec N0 σ N1)) 30 [(2, .inl 0), (3, .inl d), (0, .inr (some 187)), (1, .inl r1)] [] (zt N ρ) := by
      intro n
      induction n with
      | zero => intro m d ρ N hm; exfalso; omega
      | succ n ih =>
        intro m d ρ N hm hdm hd0 hp hpg h12 hNa hNj hN9 hBc hzo
        refine z_iload_n dX5_perform_30 rfl ?_
        refine z_if_ne (tgt := 73) dX5_perform_31 (by decide) (by omega) (fun h => absurd h (by omega)) (fun c31 => ?_)
        refine z_iload_n dX5_perform_34 rfl ?_
        refine z_iload_n dX5_perform_35 rfl ?_
        refine z_icmp_ge (tgt := 73) dX5_perform_36 (by decide) (by omega) (by omega) (fun c36 => ?_) (fun c36 => ?_)
        · have hm0 : m = 0 := by omega
          subst hm0
          exact zsub' (J 0 d ρ N ⟨by rw [← hp]; rfl, by rw [← hp]; rfl, by rw [← hp]; rfl⟩ (by omega) (fun _ => by omega) (by omega) hNa hNj hN9 hzo) ⟨rfl, rfl, rfl, rfl, trivial⟩
        · obtain ⟨m1, rfl⟩ : ∃ m1, m = m1 + 1 := ⟨m - 1, by omega⟩
          have T0 : N 192 = M 192 := hNa 192 (by decide) (by decide)
          have n0 : N 187 7 = M 187 7 := hNj 7 (by omega)
          have hXN : zTx N := by unfold zTx; rw [T0, n0]; exact hX
          have hpg1 : pG (M 192) (M 187 7) (m1 + 1) (N 187 11) := hpg.elim (fun q => absurd q (by omega)) id
          obtain ⟨hp1, hp2, hp3⟩ := hpg1
          refine z_aload_n dX5_perform_39 rfl ?_
          refine z_callV mX5_thing (vX5_thing hXN (by omega) h12) rfl dX5_perform_40 kX5_146 (by decide) rfl (by show _ ≤ 8; simp) (by decide) zsh187 (by decide) rfl (fun v40 M40 q40 => ?_)
          obtain ⟨rfl, N40, rfl, hk40, ha40, hb40, hv40⟩ := q40
          try simp only [zpush]
          rw [T0, n0] at ha40 hb40 hv40
          have hv := hv40 (by omega)
          have hkd3 := pT_kd hp2
          have k40a : ∀ a : Int, a ≠ 187 → a ≠ 189 → N40 a = M a := fun a q1 q2 => (hk40.1 a q1).trans (hNa a q1 q2)
          have k40j : ∀ j : Int, (j < 11 ∨ 17 ≤ j) → N40 187 j = M 187 j := fun j q => (hk40.2 j q).trans (hNj j q)
          refine z_aload_n dX5_perform_43 rfl ?_
          refine z_dup dX5_perform_44 ?_
          refine z_oget (kI := 11) dX5_perform_45 fX5_116 (by decide) (by decide) zsh187 rfl rfl ?_
          refine z_iconst dX5_perform_48 ?_
          refine z_iadd dX5_perform_49 ?_
          refine z_oput (kI := 11) dX5_perform_50 fX5_116 rfl (Or.inl rfl) (by decide) (by decide) zsh187 rfl rfl (fun N50 hN50 => ?_)
          have e11 : N50 187 11 = N40 187 11 + 1 := by rw [hN50, zm_up_at]
          have e12 : N50 187 12 = 0 := by rw [hN50, zm_up_ne (by decide), ha40, hp2]
          have e13 : N50 187 13 = pN (M 192) (M 187 7) (N 187 11) := by rw [hN50, zm_up_ne (by decide), hv.1]
          have e14 : N50 187 14 = p1 (M 192) (M 187 7) (N 187 11) := by rw [hN50, zm_up_ne (by decide), hv.2.1.1]
          have hv2 := hv.2.2
          have e15 : ¬ pN (M 192) (M 187 7) (N 187 11) = 46 → N50 187 15 = p2 (M 192) (M 187 7) (N 187 11) := fun q => by rw [hN50, zm_up_ne (by decide), (hv2.1 q).1]
          have e16 : pN (M 192) (M 187 7) (N 187 11) = 102 → N50 187 16 = p3 (M 192) (M 187 7) (N 187 11) := fun q => by rw [hN50, zm_up_ne (by decide), (hv2.2 q).1]
          have hr14 := hv.2.1.2
          have k50a : ∀ a : Int, a ≠ 187 → a ≠ 189 → N50 a = M a := fun a q1 q2 => by rw [hN50, zm_up_off q1]; exact k40a a q1 q2
          have k50j : ∀ j : Int, (j < 11 ∨ 17 ≤ j) → N50 187 j = M 187 j := fun j q => by rw [hN50, zm_up_ne (by omega)]; exact k40j j q
          have k509 : ∀ j : Int, 0 ≤ j → j < 538 → N50 189 j = σ j := fun j q1 q2 => by rw [hN50, zm_up_off (by decide), hk40.1 189 (by decide)]; exact hN9 j q1 q2
          refine z_aload_n dX5_perform_53 rfl ?_
          refine z_callV mX5_doesThing (vX5_doesThing hBc (by rw [e13]; exact hkd3) (by rw [e14]; exact hr14) (fun q => by rw [e13] at q; rw [e15 q]; exact (hv2.1 q).2) (fun q => by rw [e13] at q; rw [e16 q]; exact (hv2.2 q).2)) rfl dX5_perform_54 kX5_155 (by decide) rfl (by show _ ≤ 8; simp) (by decide) zsh187 (by decide) rfl (fun v54 M54 q54 => ?_)
          obtain ⟨r54, ρ54, rfl, rfl, hd54⟩ := q54
          try simp only [zpush]
          have hqe := sBarK_eq ρ (a := p1 (M 192) (M 187 7) (N 187 11)) (b := N50 187 15) (c := N50 187 16) hkd3 e15 e16
          rw [e13, e14, hqe.1, hqe.2] at hd54
          have hbr := sBarK_r ρ (pN (M 192) (M 187 7) (N 187 11)) (p1 (M 192) (M 187 7) (N 187 11)) (p2 (M 192) (M 187 7) (N 187 11)) (p3 (M 192) (M 187 7) (N 187 11))
          rw [pD_s] at hp
          have hpn : m1 = 0 ∨ pG (M 192) (M 187 7) m1 (N50 187 11) := by rw [e11, hb40]; exact hp3
          rcases hd54 with hdd | hdd | hdd
          · rw [if_pos hdd.1] at hp
            have hz := zB_eff hBc hdd.1
            have hback : ∀ r d2 : Int, (r = 0 ∧ d2 = d + 1) → zW G YX5_perform (fun v M' => (¬ (pR (M 192) (M 187 7) 0 0).1.1 = 0 ∧ v = some (.inl (-100 - (pR (M 192) (M 187 7) 0 0).1.2)) ∧ ∃ N : zM, M' = zt N σ ∧ zPk M N) ∨ ((pR (M 192) (M 187 7) 0 0).1.1 = 0 ∧ ¬ (pD (M 192) (M 187 7) (pR (M 192) (M 187 7) 0 0).2.toNat 0 0 σ).1.1 = 0 ∧ v = some (.inl (-4)) ∧ ∃ N : zM, M' = zt N σ ∧ (∀ a : Int, a ≠ 187 → a ≠ 189 → N a = M a) ∧ (∀ j : Int, (j < 8 ∨ 17 ≤ j) → N 187 j = M 187 j) ∧ N 187 8 = 1 ∧ N 187 9 = (pD (M 192) (M 187 7) (pR (M 192) (M 187 7) 0 0).2.toNat 0 0 σ).1.2 ∧ N 187 10 = (pD (M 192) (M 187 7) (pR (M 192) (M 187 7) 0 0).2.toNat 0 0 σ).1.1) ∨ ((pR (M 192) (M 187 7) 0 0).1.1 = 0 ∧ (pD (M 192) (M 187 7) (pR (M 192) (M 187 7) 0 0).2.toNat 0 0 σ).1.1 = 0 ∧ v = some (.inl (pR (M 192) (M 187 7) 0 0).2) ∧ ∃ N0 N1 : zM, M' = zt N1 (pD (M 192) (M 187 7) (pR (M 192) (M 187 7) 0 0).2.toNat 0 0 σ).2 ∧ (∀ a : Int, a ≠ 187 → a ≠ 189 → N0 a = M a) ∧ (∀ j : Int, (j < 11 ∨ 17 ≤ j) → N0 187 j = M 187 j) ∧ zRec N0 σ N1)) 30 [(2, .inl r), (3, .inl d2), (0, .inr (some 187)), (1, .inl r1)] [] (zt N50 ρ54) := by
              rintro r d2 ⟨rfl, rfl⟩
              exact ih m1 (d + 1) ρ54 N50 (by omega) (by omega) (by omega) (by rw [hdd.2.2, e11, hb40]; exact hp) hpn e12 k50a k50j k509 (by rw [hdd.2.2]; exact hz.1) (by rw [hdd.2.2]; exact hzo.tr hz.2)
            refine z_istore_n dX5_perform_57 (by decide) ?_
            refine z_iload_n dX5_perform_58 rfl ?_
            refine z_iload_n dX5_perform_59 rfl ?_
            refine z_if_ne (tgt := 67) dX5_perform_60 (by decide) (by omega) (fun h => absurd h (by omega)) (fun c60 => ?_)
            refine z_iconst dX5_perform_63 ?_
            refine z_goto (tgt := 68) dX5_perform_64 (by decide) ?_
            refine z_iadd dX5_perform_68 ?_
            refine z_istore_n dX5_perform_69 (by decide) ?_
            refine z_goto (tgt := 30) dX5_perform_70 (by decide) ?_
            exact zsub' (hback _ _ (by omega)) ⟨rfl, rfl, rfl, rfl, trivial⟩
          · rw [if_neg (by omega), if_pos hdd.1] at hp
            have hback : ∀ r d2 : Int, (r = 0 ∧ d2 = d + 1) → zW G YX5_perform (fun v M' => (¬ (pR (M 192) (M 187 7) 0 0).1.1 = 0 ∧ v = some (.inl (-100 - (pR (M 192) (M 187 7) 0 0).1.2)) ∧ ∃ N : zM, M' = zt N σ ∧ zPk M N) ∨ ((pR (M 192) (M 187 7) 0 0).1.1 = 0 ∧ ¬ (pD (M 192) (M 187 7) (pR (M 192) (M 187 7) 0 0).2.toNat 0 0 σ).1.1 = 0 ∧ v = some (.inl (-4)) ∧ ∃ N : zM, M' = zt N σ ∧ (∀ a : Int, a ≠ 187 → a ≠ 189 → N a = M a) ∧ (∀ j : Int, (j < 8 ∨ 17 ≤ j) → N 187 j = M 187 j) ∧ N 187 8 = 1 ∧ N 187 9 = (pD (M 192) (M 187 7) (pR (M 192) (M 187 7) 0 0).2.toNat 0 0 σ).1.2 ∧ N 187 10 = (pD (M 192) (M 187 7) (pR (M 192) (M 187 7) 0 0).2.toNat 0 0 σ).1.1) ∨ ((pR (M 192) (M 187 7) 0 0).1.1 = 0 ∧ (pD (M 192) (M 187 7) (pR (M 192) (M 187 7) 0 0).2.toNat 0 0 σ).1.1 = 0 ∧ v = some (.inl (pR (M 192) (M 187 7) 0 0).2) ∧ ∃ N0 N1 : zM, M' = zt N1 (pD (M 192) (M 187 7) (pR (M 192) (M 187 7) 0 0).2.toNat 0 0 σ).2 ∧ (∀ a : Int, a ≠ 187 → a ≠ 189 → N0 a = M a) ∧ (∀ j : Int, (j < 11 ∨ 17 ≤ j) → N0 187 j = M 187 j) ∧ zRec N0 σ N1)) 30 [(2, .inl r), (3, .inl d2), (0, .inr (some 187)), (1, .inl r1)] [] (zt N50 ρ54) := by
              rintro r d2 ⟨rfl, rfl⟩
              exact ih m1 (d + 1) ρ54 N50 (by omega) (by omega) (by omega) (by rw [hdd.2.2, e11, hb40]; exact hp) hpn e12 k50a k50j k509 (by rw [hdd.2.2]; exact hBc) (by rw [hdd.2.2]; exact hzo)
            refine z_istore_n dX5_perform_57 (by decide) ?_
            refine z_iload_n dX5_perform_58 rfl ?_
            refine z_iload_n dX5_perform_59 rfl ?_
            refine z_if_ne (tgt := 67) dX5_perform_60 (by decide) (by omega) (fun h => absurd h (by omega)) (fun c60 => ?_)
            refine z_iconst dX5_perform_63 ?_
            refine z_goto (tgt := 68) dX5_perform_64 (by decide) ?_
            refine z_iadd dX5_perform_68 ?_
            refine z_istore_n dX5_perform_69 (by decide) ?_
            refine z_goto (tgt := 30) dX5_perform_70 (by decide) ?_
            exact zsub' (hback _ _ (by omega)) ⟨rfl, rfl, rfl, rfl, trivial⟩
          · rw [if_neg hdd.1, if_neg hdd.2.1] at hp
            have hback : ∀ r d2 : Int, (r = r54 ∧ d2 = d + 0) → zW G YX5_perform (fun v M' => (¬ (pR (M 192) (M 187 7) 0 0).1.1 = 0 ∧ v = some (.inl (-100 - (pR (M 192) (M 187 7) 0 0).1.2)) ∧ ∃ N : zM, M' = zt N σ ∧ zPk M N) ∨ ((pR (M 192) (M 187 7) 0 0).1.1 = 0 ∧ ¬ (pD (M 192) (M 187 7) (pR (M 192) (M 187 7) 0 0).2.toNat 0 0 σ).1.1 = 0 ∧ v = some (.inl (-4)) ∧ ∃ N : zM, M' = zt N σ ∧ (∀ a : Int, a ≠ 187 → a ≠ 189 → N a = M a) ∧ (∀ j : Int, (j < 8 ∨ 17 ≤ j) → N 187 j = M 187 j) ∧ N 187 8 = 1 ∧ N 187 9 = (pD (M 192) (M 187 7) (pR (M 192) (M 187 7) 0 0).2.toNat 0 0 σ).1.2 ∧ N 187 10 = (pD (M 192) (M 187 7) (pR (M 192) (M 187 7) 0 0).2.toNat 0 0 σ).1.1) ∨ ((pR (M 192) (M 187 7) 0 0).1.1 = 0 ∧ (pD (M 192) (M 187 7) (pR (M 192) (M 187 7) 0 0).2.toNat 0 0 σ).1.1 = 0 ∧ v = some (.inl (pR (M 192) (M 187 7) 0 0).2) ∧ ∃ N0 N1 : zM, M' = zt N1 (pD (M 192) (M 187 7) (pR (M 192) (M 187 7) 0 0).2.toNat 0 0 σ).2 ∧ (∀ a : Int, a ≠ 187 → a ≠ 189 → N0 a = M a) ∧ (∀ j : Int, (j < 11 ∨ 17 ≤ j) → N0 187 j = M 187 j) ∧ zRec N0 σ N1)) 30 [(2, .inl r), (3, .inl d2), (0, .inr (some 187)), (1, .inl r1)] [] (zt N50 ρ54) := by
              intro r d2 hrd
              rw [hrd.1, hrd.2]
              exact J2 r54 (d + 0) ρ54 N50 (by omega) ⟨by rw [← hp, hdd.2.2.1], by rw [← hp, Int.add_zero], by rw [← hp, hdd.2.2.2]⟩ (by omega) (fun q => by omega) (by omega) k50a k50j k509 (by rw [hdd.2.2.2]; exact hzo)
            refine z_istore_n dX5_perform_57 (by decide) ?_
            refine z_iload_n dX5_perform_58 rfl ?_
            refine z_iload_n dX5_perform_59 rfl ?_
            refine z_if_ne (tgt := 67) dX5_perform_60 (by decide) (by omega) (fun c60 => ?_) (fun h => absurd h (by omega))
            refine z_iconst dX5_perform_67 ?_
            refine z_iadd dX5_perform_68 ?_
            refine z_istore_n dX5_perform_69 (by decide) ?_
            refine z_goto (tgt := 30) dX5_perform_70 (by decide) ?_
            exact zsub' (hback _ _ (by omega)) ⟨rfl, rfl, rfl, rfl, trivial⟩
    exact zsub' (L (r1.toNat + 1) r1.toNat 0 σ N23 (by omega) (by omega) (by omega) (by rw [hN23, zm_up_at, hx2.1]) (Or.inr (by rw [hN23, zm_up_at, hx2.1]; exact hG)) (by rw [hN23, zm_up_ne (by decide), hP18 187 (by decide), hx2.2]) (fun a q1 q2 => by rw [hN23, zm_up_off q1, hP18 a q2]; exact hk1.1 a q1) (fun j q => by rw [hN23, zm_up_ne (by omega), hP18 187 (by decide)]; exact hk1.2 j q) (fun j q1 q2 => by rw [hN23, zm_up_off (by decide)]; exact hQ18 j q1 q2) hB (zo.rf σ)) ⟨rfl, rfl, rfl, rfl, trivial⟩
  · refine z_bipush dX5_perform_9 (by decide) ?_
    refine z_aload_n dX5_perform_11 rfl ?_
    refine z_oget (kI := 11) dX5_perform_12 fX5_116 (by decide) (by decide) zsh187 rfl rfl ?_
    refine z_isub dX5_perform_15 ?_
    refine z_iret dX5_perform_16 rfl ?_
    refine Or.inl ⟨fun q => by omega, ?_, N1, rfl, hk1⟩
    rw [hs1]
