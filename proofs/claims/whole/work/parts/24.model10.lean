theorem vX5_thing {G : zG} {M : zM} {σ : zS} (hX : zTx M) (hs : 0 ≤ M 187 11 ∧ M 187 11 ≤ M 187 7) (h0 : M 187 12 = 0) : zCall G yX5_thing YX5_thing [.inr (some 187)] (zt M σ) (fun v M' => v = none ∧ ∃ N : zM, M' = zt N σ ∧ zPk M N ∧ N 187 12 = (pT (M 192) (M 187 7) (M 187 11)).1 ∧ N 187 11 = (pT (M 192) (M 187 7) (M 187 11)).2 ∧ (N 187 12 = 0 → N 187 13 = pN (M 192) (M 187 7) (M 187 11) ∧ (N 187 14 = p1 (M 192) (M 187 7) (M 187 11) ∧ 0 ≤ p1 (M 192) (M 187 7) (M 187 11) ∧ p1 (M 192) (M 187 7) (M 187 11) ≤ 99) ∧ (¬ pN (M 192) (M 187 7) (M 187 11) = 46 → N 187 15 = p2 (M 192) (M 187 7) (M 187 11) ∧ 0 ≤ p2 (M 192) (M 187 7) (M 187 11) ∧ p2 (M 192) (M 187 7) (M 187 11) ≤ 99) ∧ (pN (M 192) (M 187 7) (M 187 11) = 102 → N 187 16 = p3 (M 192) (M 187 7) (M 187 11) ∧ 0 ≤ p3 (M 192) (M 187 7) (M 187 11) ∧ p3 (M 192) (M 187 7) (M 187 11) ≤ 99))) := by
  refine zEnter (by decide +kernel) rfl (Nat.le_of_ble_eq_true rfl) ?_
  have hn := hX.1
  have hT := hX.2
  have hpr := pN_r hT hs.1
  refine z_aload_n dX5_thing_0 rfl ?_
  refine z_aload_n dX5_thing_1 rfl ?_
  refine z_oget (kI := 12) dX5_thing_2 fX5_119 (by decide) (by decide) zsh187 rfl rfl ?_
  refine z_if_eq (tgt := 12) dX5_thing_5 (by decide) (by omega) (fun c5 => ?_) (fun c5 => ?_)
  · refine z_aload_n dX5_thing_12 rfl ?_
    refine z_callV mX5_next (vX5_next hX (by omega)) rfl dX5_thing_13 kX5_123 (by decide) rfl (by show _ ≤ 8; simp) (by decide) zsh187 (by decide) rfl (fun v13 M13 q13 => ?_)
    obtain ⟨rfl, rfl⟩ := q13
    try simp only [zpush]
    refine z_oput (kI := 13) dX5_thing_16 fX5_127 rfl (Or.inl rfl) (by decide) (by decide) zsh187 rfl rfl (fun N16 hN16 => ?_)
    have e13 : N16 187 13 = pN (M 192) (M 187 7) (M 187 11) := by rw [hN16, zm_up_at]
    have e12 : N16 187 12 = 0 := by rw [hN16, zm_up_ne (by decide)]; exact h0
    have e11 : N16 187 11 = M 187 11 := by rw [hN16, zm_up_ne (by decide)]
    have k16 : zPk M N16 := by rw [hN16]; exact (zPk.rf M).up (by omega)
    obtain ⟨kd, hkd⟩ : ∃ kd : Int, kd = pN (M 192) (M 187 7) (M 187 11) := ⟨_, rfl⟩
    rw [← hkd] at e13 hpr
    have J : ∀ w : Int, ((w = 0 ∧ (kd = 46 ∨ kd = 115 ∨ kd = 102)) ∨ (w = 1 ∧ ¬ (kd = 46 ∨ kd = 115 ∨ kd = 102))) → zW G YX5_thing (fun v M' => v = none ∧ ∃ N : zM, M' = zt N σ ∧ zPk M N ∧ N 187 12 = (pT (M 192) (M 187 7) (M 187 11)).1 ∧ N 187 11 = (pT (M 192) (M 187 7) (M 187 11)).2 ∧ (N 187 12 = 0 → N 187 13 = pN (M 192) (M 187 7) (M 187 11) ∧ (N 187 14 = p1 (M 192) (M 187 7) (M 187 11) ∧ 0 ≤ p1 (M 192) (M 187 7) (M 187 11) ∧ p1 (M 192) (M 187 7) (M 187 11) ≤ 99) ∧ (¬ pN (M 192) (M 187 7) (M 187 11) = 46 → N 187 15 = p2 (M 192) (M 187 7) (M 187 11) ∧ 0 ≤ p2 (M 192) (M 187 7) (M 187 11) ∧ p2 (M 192) (M 187 7) (M 187 11) ≤ 99) ∧ (pN (M 192) (M 187 7) (M 187 11) = 102 → N 187 16 = p3 (M 192) (M 187 7) (M 187 11) ∧ 0 ≤ p3 (M 192) (M 187 7) (M 187 11) ∧ p3 (M 192) (M 187 7) (M 187 11) ≤ 99))) 59 [(0, .inr (some 187))] [.inl w, .inr (some 187)] (zt N16 σ) := by
      intro w hw
      refine z_oput (kI := 12) dX5_thing_59 fX5_119 rfl (Or.inr ⟨rfl, by omega⟩) (by decide) (by decide) zsh187 rfl rfl (fun N59 hN59 => ?_)
      have f12 : N59 187 12 = w := by rw [hN59, zm_up_at]
      have f11 : N59 187 11 = M 187 11 := by rw [hN59, zm_up_ne (by decide), e11]
      have f13 : N59 187 13 = kd := by rw [hN59, zm_up_ne (by decide), e13]
      have k59 : zPk M N59 := by rw [hN59]; exact k16.up (by omega)
      rcases (show (w = 0 ∧ kd = 46) ∨ (w = 0 ∧ kd = 115) ∨ (w = 0 ∧ kd = 102) ∨ (w = 1 ∧ ¬ (kd = 46 ∨ kd = 115 ∨ kd = 102)) by omega) with hc | hc | hc | hc
      · have hin := pN_in (T := M 192) (n := M 187 7) (i := M 187 11) (by omega)
        refine z_aload_n dX5_thing_62 rfl ?_
        refine z_dup dX5_thing_63 ?_
        refine z_oget (kI := 11) dX5_thing_64 fX5_116 (by decide) (by decide) zsh187 rfl rfl ?_
        refine z_aload_n dX5_thing_67 rfl ?_
        refine z_oget (kI := 12) dX5_thing_68 fX5_119 (by decide) (by decide) zsh187 rfl rfl ?_
        refine z_if_eq (tgt := 78) dX5_thing_71 (by decide) (by omega) (fun c71 => ?_) (fun h => absurd h (by omega))
        refine z_iconst dX5_thing_78 ?_
        refine z_iadd dX5_thing_79 ?_
        refine z_oput (kI := 11) dX5_thing_80 fX5_116 rfl (Or.inl rfl) (by decide) (by decide) zsh187 rfl rfl (fun N80 hN80 => ?_)
        have k80 : zPk M N80 := by rw [hN80]; exact k59.up (by omega)
        have T80 : N80 192 = M 192 := k80.1 192 (by decide)
        have n80 : N80 187 7 = M 187 7 := k80.2 7 (by omega)
        have a80 : N80 187 12 = w := by rw [hN80, zm_up_ne (by decide), f12]
        have b80 := congrFun (congrFun hN80 187) 11
        rw [zm_up_at, f11] at b80
        have d80 : N80 187 13 = kd := by rw [hN80, zm_up_ne (by decide), f13]
        refine z_aload_n dX5_thing_83 rfl ?_
        refine z_oget (kI := 13) dX5_thing_84 fX5_127 (by decide) (by decide) zsh187 rfl rfl ?_
        refine z_bipush dX5_thing_87 (by decide) ?_
        refine z_icmp_ne (tgt := 104) dX5_thing_89 (by decide) (by omega) (by omega) (fun h => absurd h (by omega)) (fun c89 => ?_)
        refine z_aload_n dX5_thing_92 rfl ?_
        refine z_aload_n dX5_thing_93 rfl ?_
        refine z_iconst dX5_thing_94 ?_
        refine z_bipush dX5_thing_95 (by decide) ?_
        refine z_callV mX5_number (vX5_number (hX.k k80) (by omega) (by omega) (by omega)) rfl dX5_thing_97 kX5_130 (by decide) rfl (by show _ ≤ 8; simp) (by decide) zsh187 (by decide) rfl (fun v97 M97 q97 => ?_)
        obtain ⟨N97, r97, rfl, rfl, hk97, hj97, ha97, hb97, hv97, hr97⟩ := q97
        try simp only [zpush]
        have k97 : zPk M N97 := k80.tr hk97
        have T97 : N97 192 = M 192 := k97.1 192 (by decide)
        have n97 : N97 187 7 = M 187 7 := k97.2 7 (by omega)
        rw [T80, n80] at ha97 hb97 hv97
        have r97r := pM_r (T := M 192) (n := M 187 7) (lo := 1) (hi := 99) (x := (N80 187 12, N80 187 11)) (by omega) (by show N80 187 11 ≤ M 187 7; omega)
        rw [← ha97, ← hb97] at r97r
        dsimp only at r97r
        have d97 : N97 187 13 = N80 187 13 := hj97 13 (by decide) (by decide)
        refine z_oput (kI := 14) dX5_thing_100 fX5_133 rfl (Or.inl rfl) (by decide) (by decide) zsh187 rfl rfl (fun N100 hN100 => ?_)
        refine z_vret dX5_thing_103 rfl ?_
        have k100 : zPk M N100 := by rw [hN100]; exact k97.up (by omega)
        have T100 : N100 192 = M 192 := k100.1 192 (by decide)
        have n100 : N100 187 7 = M 187 7 := k100.2 7 (by omega)
        have a100 : N100 187 12 = N97 187 12 := by rw [hN100, zm_up_ne (by decide)]
        have b100 : N100 187 11 = N97 187 11 := by rw [hN100, zm_up_ne (by decide)]
        have d100 : N100 187 13 = N97 187 13 := by rw [hN100, zm_up_ne (by decide)]
        have xT : pT (M 192) (M 187 7) (M 187 11) = (N100 187 12, N100 187 11) := by unfold pT; rw [← hkd, if_pos hc.2, a100, b100, ha97, hb97, a80, b80, hc.1]
        have e1 : N100 187 12 = 0 → p1 (M 192) (M 187 7) (M 187 11) = r97 := fun q => by unfold p1; rw [← hkd, if_pos hc.2, hv97 (by omega), b80]
        refine ⟨rfl, N100, rfl, k100, by rw [xT], by rw [xT], fun q => ⟨by rw [← hkd, d100, d97, d80], ?_, fun q2 => absurd hc.2 (by rw [← hkd] at q2; exact q2), fun q2 => by rw [← hkd] at q2; omega⟩⟩
        rw [e1 q]
        exact ⟨by rw [hN100, zm_up_at], by omega, by omega⟩
      · have hin := pN_in (T := M 192) (n := M 187 7) (i := M 187 11) (by omega)
        refine z_aload_n dX5_thing_62 rfl ?_
        refine z_dup dX5_thing_63 ?_
        refine z_oget (kI := 11) dX5_thing_64 fX5_116 (by decide) (by decide) zsh187 rfl rfl ?_
        refine z_aload_n dX5_thing_67 rfl ?_
        refine z_oget (kI := 12) dX5_thing_68 fX5_119 (by decide) (by decide) zsh187 rfl rfl ?_
        refine z_if_eq (tgt := 78) dX5_thing_71 (by decide) (by omega) (fun c71 => ?_) (fun h => absurd h (by omega))
        refine z_iconst dX5_thing_78 ?_
        refine z_iadd dX5_thing_79 ?_
        refine z_oput (kI := 11) dX5_thing_80 fX5_116 rfl (Or.inl rfl) (by decide) (by decide) zsh187 rfl rfl (fun N80 hN80 => ?_)
        have k80 : zPk M N80 := by rw [hN80]; exact k59.up (by omega)
        have T80 : N80 192 = M 192 := k80.1 192 (by decide)
        have n80 : N80 187 7 = M 187 7 := k80.2 7 (by omega)
        have a80 : N80 187 12 = w := by rw [hN80, zm_up_ne (by decide), f12]
        have b80 := congrFun (congrFun hN80 187) 11
        rw [zm_up_at, f11] at b80
        have d80 : N80 187 13 = kd := by rw [hN80, zm_up_ne (by decide), f13]
        refine z_aload_n dX5_thing_83 rfl ?_
        refine z_oget (kI := 13) dX5_thing_84 fX5_127 (by decide) (by decide) zsh187 rfl rfl ?_
        refine z_bipush dX5_thing_87 (by decide) ?_
        refine z_icmp_ne (tgt := 104) dX5_thing_89 (by decide) (by omega) (by omega) (fun c89 => ?_) (fun h => absurd h (by omega))
        refine z_aload_n dX5_thing_104 rfl ?_
        refine z_aload_n dX5_thing_105 rfl ?_
        refine z_iconst dX5_thing_106 ?_
        refine z_iconst dX5_thing_107 ?_
        refine z_callV mX5_number (vX5_number (hX.k k80) (by omega) (by omega) (by omega)) rfl dX5_thing_108 kX5_130 (by decide) rfl (by show _ ≤ 8; simp) (by decide) zsh187 (by decide) rfl (fun v108 M108 q108 => ?_)
        obtain ⟨N108, r108, rfl, rfl, hk108, hj108, ha108, hb108, hv108, hr108⟩ := q108
        try simp only [zpush]
        have k108 : zPk M N108 := k80.tr hk108
        have T108 : N108 192 = M 192 := k108.1 192 (by decide)
        have n108 : N108 187 7 = M 187 7 := k108.2 7 (by omega)
        rw [T80, n80] at ha108 hb108 hv108
        have r108r := pM_r (T := M 192) (n := M 187 7) (lo := 0) (hi := 5) (x := (N80 187 12, N80 187 11)) (by omega) (by show N80 187 11 ≤ M 187 7; omega)
        rw [← ha108, ← hb108] at r108r
        dsimp only at r108r
        have d108 : N108 187 13 = N80 187 13 := hj108 13 (by decide) (by decide)
        refine z_oput (kI := 14) dX5_thing_111 fX5_133 rfl (Or.inl rfl) (by decide) (by decide) zsh187 rfl rfl (fun N111 hN111 => ?_)
        have k111 : zPk M N111 := by rw [hN111]; exact k108.up (by omega)
        have T111 : N111 192 = M 192 := k111.1 192 (by decide)
        have n111 : N111 187 7 = M 187 7 := k111.2 7 (by omega)
        have a111 : N111 187 12 = N108 187 12 := by rw [hN111, zm_up_ne (by decide)]
        have b111 : N111 187 11 = N108 187 11 := by rw [hN111, zm_up_ne (by decide)]
        have d111 : N111 187 13 = N108 187 13 := by rw [hN111, zm_up_ne (by decide)]
        have z111 : N111 187 14 = r108 := by rw [hN111, zm_up_at]
        refine z_aload_n dX5_thing_114 rfl ?_
        refine z_aload_n dX5_thing_115 rfl ?_
        refine z_oget (kI := 13) dX5_thing_116 fX5_127 (by decide) (by decide) zsh187 rfl rfl ?_
        refine z_bipush dX5_thing_119 (by decide) ?_
        refine z_icmp_ne (tgt := 129) dX5_thing_121 (by decide) (by omega) (by omega) (fun h => absurd h (by omega)) (fun c121 => ?_)
        refine z_bipush dX5_thing_124 (by decide) ?_
        refine z_goto (tgt := 131) dX5_thing_126 (by decide) ?_
        refine z_callV mX5_sign (vX5_sign (hX.k k111) (by omega) (by omega) (by omega)) rfl dX5_thing_131 kX5_136 (by decide) rfl (by show _ ≤ 8; simp) (by decide) zsh187 (by decide) rfl (fun v131 M131 q131 => ?_)
        obtain ⟨rfl, N131, rfl, hk131, hj131, ha131, hb131⟩ := q131
        try simp only [zpush]
        have k131 : zPk M N131 := k111.tr hk131
        have T131 : N131 192 = M 192 := k131.1 192 (by decide)
        have n131 : N131 187 7 = M 187 7 := k131.2 7 (by omega)
        rw [T111, n111] at ha131 hb131
        have r131r := pS_r (T := M 192) (n := M 187 7) (c := 42) (x := (N111 187 12, N111 187 11)) (by omega) (by show N111 187 11 ≤ M 187 7; omega)
        rw [← ha131, ← hb131] at r131r
        dsimp only at r131r
        have d131 : N131 187 13 = N111 187 13 := hj131 13 (by decide) (by decide)
        refine z_aload_n dX5_thing_134 rfl ?_
        refine z_aload_n dX5_thing_135 rfl ?_
        refine z_iconst dX5_thing_136 ?_
        refine z_aload_n dX5_thing_137 rfl ?_
        refine z_oget (kI := 13) dX5_thing_138 fX5_127 (by decide) (by decide) zsh187 rfl rfl ?_
        refine z_bipush dX5_thing_141 (by decide) ?_
        refine z_icmp_ne (tgt := 151) dX5_thing_143 (by decide) (by omega) (by omega) (fun h => absurd h (by omega)) (fun c143 => ?_)
        refine z_bipush dX5_thing_146 (by decide) ?_
        refine z_goto (tgt := 153) dX5_thing_148 (by decide) ?_
        refine z_callV mX5_number (vX5_number (hX.k k131) (by omega) (by omega) (by omega)) rfl dX5_thing_153 kX5_130 (by decide) rfl (by show _ ≤ 8; simp) (by decide) zsh187 (by decide) rfl (fun v153 M153 q153 => ?_)
        obtain ⟨N153, r153, rfl, rfl, hk153, hj153, ha153, hb153, hv153, hr153⟩ := q153
        try simp only [zpush]
        have k153 : zPk M N153 := k131.tr hk153
        have T153 : N153 192 = M 192 := k153.1 192 (by decide)
        have n153 : N153 187 7 = M 187 7 := k153.2 7 (by omega)
        rw [T131, n131] at ha153 hb153 hv153
        have r153r := pM_r (T := M 192) (n := M 187 7) (lo := 0) (hi := 99) (x := (N131 187 12, N131 187 11)) (by omega) (by show N131 187 11 ≤ M 187 7; omega)
        rw [← ha153, ← hb153] at r153r
        dsimp only at r153r
        have d153 : N153 187 13 = N131 187 13 := hj153 13 (by decide) (by decide)
        refine z_oput (kI := 15) dX5_thing_156 fX5_140 rfl (Or.inl rfl) (by decide) (by decide) zsh187 rfl rfl (fun N156 hN156 => ?_)
        have k156 : zPk M N156 := by rw [hN156]; exact k153.up (by omega)
        have T156 : N156 192 = M 192 := k156.1 192 (by decide)
        have n156 : N156 187 7 = M 187 7 := k156.2 7 (by omega)
        have a156 : N156 187 12 = N153 187 12 := by rw [hN156, zm_up_ne (by decide)]
        have b156 : N156 187 11 = N153 187 11 := by rw [hN156, zm_up_ne (by decide)]
        have d156 : N156 187 13 = N153 187 13 := by rw [hN156, zm_up_ne (by decide)]
        have z156 : N156 187 14 = r108 := by rw [hN156, zm_up_ne (by decide), hj153 14 (by decide) (by decide), hj131 14 (by decide) (by decide), z111]
        have y156 : N156 187 15 = r153 := by rw [hN156, zm_up_at]
        refine z_aload_n dX5_thing_159 rfl ?_
        refine z_oget (kI := 13) dX5_thing_160 fX5_127 (by decide) (by decide) zsh187 rfl rfl ?_
        refine z_bipush dX5_thing_163 (by decide) ?_
        refine z_icmp_ne (tgt := 185) dX5_thing_165 (by decide) (by omega) (by omega) (fun c165 => ?_) (fun h => absurd h (by omega))
        refine z_vret dX5_thing_185 rfl ?_
        have xA : pA (M 192) (M 187 7) (M 187 11) = (N111 187 12, N111 187 11) := by unfold pA; rw [a111, b111, ha108, hb108, a80, b80, hc.1]
        have xB : pB1 (M 192) (M 187 7) (M 187 11) = (N131 187 12, N131 187 11) := by unfold pB1; rw [xA, ha131, hb131]
        have xT : pT (M 192) (M 187 7) (M 187 11) = (N156 187 12, N156 187 11) := by unfold pT; rw [← hkd, if_neg (by omega), if_pos hc.2, xB, a156, b156, ha153, hb153]
        have e1 : N156 187 12 = 0 → p1 (M 192) (M 187 7) (M 187 11) = r108 := fun q => by unfold p1; rw [← hkd, if_neg (by omega), hv108 (by omega), b80]
        have e2 : N156 187 12 = 0 → p2 (M 192) (M 187 7) (M 187 11) = r153 := fun q => by unfold p2; rw [← hkd, if_pos hc.2, xB, hv153 (by omega)]
        refine ⟨rfl, N156, rfl, k156, by rw [xT], by rw [xT], fun q => ⟨by rw [← hkd, d156, d153, d131, d111, d108, d80], ?_, fun q2 => ?_, fun q2 => by rw [← hkd] at q2; omega⟩⟩
        · rw [e1 q]
          exact ⟨z156, by omega, by omega⟩
        · rw [e2 q]
          exact ⟨y156, by omega, by omega⟩
      · have hin := pN_in (T := M 192) (n := M 187 7) (i := M 187 11) (by omega)
        refine z_aload_n dX5_thing_62 rfl ?_
        refine z_dup dX5_thing_63 ?_
        refine z_oget (kI := 11) dX5_thing_64 fX5_116 (by decide) (by decide) zsh187 rfl rfl ?_
        refine z_aload_n dX5_thing_67 rfl ?_
        refine z_oget (kI := 12) dX5_thing_68 fX5_119 (by decide) (by decide) zsh187 rfl rfl ?_
        refine z_if_eq (tgt := 78) dX5_thing_71 (by decide) (by omega) (fun c71 => ?_) (fun h => absurd h (by omega))
        refine z_iconst dX5_thing_78 ?_
        refine z_iadd dX5_thing_79 ?_
        refine z_oput (kI := 11) dX5_thing_80 fX5_116 rfl (Or.inl rfl) (by decide) (by decide) zsh187 rfl rfl (fun N80 hN80 => ?_)
        have k80 : zPk M N80 := by rw [hN80]; exact k59.up (by omega)
        have T80 : N80 192 = M 192 := k80.1 192 (by decide)
        have n80 : N80 187 7 = M 187 7 := k80.2 7 (by omega)
        have a80 : N80 187 12 = w := by rw [hN80, zm_up_ne (by decide), f12]
        have b80 := congrFun (congrFun hN80 187) 11
        rw [zm_up_at, f11] at b80
        have d80 : N80 187 13 = kd := by rw [hN80, zm_up_ne (by decide), f13]
        refine z_aload_n dX5_thing_83 rfl ?_
        refine z_oget (kI := 13) dX5_thing_84 fX5_127 (by decide) (by decide) zsh187 rfl rfl ?_
        refine z_bipush dX5_thing_87 (by decide) ?_
        refine z_icmp_ne (tgt := 104) dX5_thing_89 (by decide) (by omega) (by omega) (fun c89 => ?_) (fun h => absurd h (by omega))
        refine z_aload_n dX5_thing_104 rfl ?_
        refine z_aload_n dX5_thing_105 rfl ?_
        refine z_iconst dX5_thing_106 ?_
        refine z_iconst dX5_thing_107 ?_
        refine z_callV mX5_number (vX5_number (hX.k k80) (by omega) (by omega) (by omega)) rfl dX5_thing_108 kX5_130 (by decide) rfl (by show _ ≤ 8; simp) (by decide) zsh187 (by decide) rfl (fun v108 M108 q108 => ?_)
        obtain ⟨N108, r108, rfl, rfl, hk108, hj108, ha108, hb108, hv108, hr108⟩ := q108
        try simp only [zpush]
        have k108 : zPk M N108 := k80.tr hk108
        have T108 : N108 192 = M 192 := k108.1 192 (by decide)
        have n108 : N108 187 7 = M 187 7 := k108.2 7 (by omega)
        rw [T80, n80] at ha108 hb108 hv108
        have r108r := pM_r (T := M 192) (n := M 187 7) (lo := 0) (hi := 5) (x := (N80 187 12, N80 187 11)) (by omega) (by show N80 187 11 ≤ M 187 7; omega)
        rw [← ha108, ← hb108] at r108r
        dsimp only at r108r
        have d108 : N108 187 13 = N80 187 13 := hj108 13 (by decide) (by decide)
        refine z_oput (kI := 14) dX5_thing_111 fX5_133 rfl (Or.inl rfl) (by decide) (by decide) zsh187 rfl rfl (fun N111 hN111 => ?_)
        have k111 : zPk M N111 := by rw [hN111]; exact k108.up (by omega)
        have T111 : N111 192 = M 192 := k111.1 192 (by decide)
        have n111 : N111 187 7 = M 187 7 := k111.2 7 (by omega)
        have a111 : N111 187 12 = N108 187 12 := by rw [hN111, zm_up_ne (by decide)]
        have b111 : N111 187 11 = N108 187 11 := by rw [hN111, zm_up_ne (by decide)]
        have d111 : N111 187 13 = N108 187 13 := by rw [hN111, zm_up_ne (by decide)]
        have z111 : N111 187 14 = r108 := by rw [hN111, zm_up_at]
        refine z_aload_n dX5_thing_114 rfl ?_
        refine z_aload_n dX5_thing_115 rfl ?_
        refine z_oget (kI := 13) dX5_thing_116 fX5_127 (by decide) (by decide) zsh187 rfl rfl ?_
        refine z_bipush dX5_thing_119 (by decide) ?_
        refine z_icmp_ne (tgt := 129) dX5_thing_121 (by decide) (by omega) (by omega) (fun c121 => ?_) (fun h => absurd h (by omega))
        refine z_bipush dX5_thing_129 (by decide) ?_
        refine z_callV mX5_sign (vX5_sign (hX.k k111) (by omega) (by omega) (by omega)) rfl dX5_thing_131 kX5_136 (by decide) rfl (by show _ ≤ 8; simp) (by decide) zsh187 (by decide) rfl (fun v131 M131 q131 => ?_)
        obtain ⟨rfl, N131, rfl, hk131, hj131, ha131, hb131⟩ := q131
        try simp only [zpush]
        have k131 : zPk M N131 := k111.tr hk131
        have T131 : N131 192 = M 192 := k131.1 192 (by decide)
        have n131 : N131 187 7 = M 187 7 := k131.2 7 (by omega)
        rw [T111, n111] at ha131 hb131
        have r131r := pS_r (T := M 192) (n := M 187 7) (c := 46) (x := (N111 187 12, N111 187 11)) (by omega) (by show N111 187 11 ≤ M 187 7; omega)
        rw [← ha131, ← hb131] at r131r
        dsimp only at r131r
        have d131 : N131 187 13 = N111 187 13 := hj131 13 (by decide) (by decide)
        refine z_aload_n dX5_thing_134 rfl ?_
        refine z_aload_n dX5_thing_135 rfl ?_
        refine z_iconst dX5_thing_136 ?_
        refine z_aload_n dX5_thing_137 rfl ?_
        refine z_oget (kI := 13) dX5_thing_138 fX5_127 (by decide) (by decide) zsh187 rfl rfl ?_
        refine z_bipush dX5_thing_141 (by decide) ?_
        refine z_icmp_ne (tgt := 151) dX5_thing_143 (by decide) (by omega) (by omega) (fun c143 => ?_) (fun h => absurd h (by omega))
        refine z_bipush dX5_thing_151 (by decide) ?_
        refine z_callV mX5_number (vX5_number (hX.k k131) (by omega) (by omega) (by omega)) rfl dX5_thing_153 kX5_130 (by decide) rfl (by show _ ≤ 8; simp) (by decide) zsh187 (by decide) rfl (fun v153 M153 q153 => ?_)
        obtain ⟨N153, r153, rfl, rfl, hk153, hj153, ha153, hb153, hv153, hr153⟩ := q153
        try simp only [zpush]
        have k153 : zPk M N153 := k131.tr hk153
        have T153 : N153 192 = M 192 := k153.1 192 (by decide)
        have n153 : N153 187 7 = M 187 7 := k153.2 7 (by omega)
        rw [T131, n131] at ha153 hb153 hv153
        have r153r := pM_r (T := M 192) (n := M 187 7) (lo := 0) (hi := 19) (x := (N131 187 12, N131 187 11)) (by omega) (by show N131 187 11 ≤ M 187 7; omega)
        rw [← ha153, ← hb153] at r153r
        dsimp only at r153r
        have d153 : N153 187 13 = N131 187 13 := hj153 13 (by decide) (by decide)
        refine z_oput (kI := 15) dX5_thing_156 fX5_140 rfl (Or.inl rfl) (by decide) (by decide) zsh187 rfl rfl (fun N156 hN156 => ?_)
        have k156 : zPk M N156 := by rw [hN156]; exact k153.up (by omega)
        have T156 : N156 192 = M 192 := k156.1 192 (by decide)
        have n156 : N156 187 7 = M 187 7 := k156.2 7 (by omega)
        have a156 : N156 187 12 = N153 187 12 := by rw [hN156, zm_up_ne (by decide)]
        have b156 : N156 187 11 = N153 187 11 := by rw [hN156, zm_up_ne (by decide)]
        have d156 : N156 187 13 = N153 187 13 := by rw [hN156, zm_up_ne (by decide)]
        have z156 : N156 187 14 = r108 := by rw [hN156, zm_up_ne (by decide), hj153 14 (by decide) (by decide), hj131 14 (by decide) (by decide), z111]
        have y156 : N156 187 15 = r153 := by rw [hN156, zm_up_at]
        refine z_aload_n dX5_thing_159 rfl ?_
        refine z_oget (kI := 13) dX5_thing_160 fX5_127 (by decide) (by decide) zsh187 rfl rfl ?_
        refine z_bipush dX5_thing_163 (by decide) ?_
        refine z_icmp_ne (tgt := 185) dX5_thing_165 (by decide) (by omega) (by omega) (fun h => absurd h (by omega)) (fun c165 => ?_)
        refine z_aload_n dX5_thing_168 rfl ?_
        refine z_bipush dX5_thing_169 (by decide) ?_
        refine z_callV mX5_sign (vX5_sign (hX.k k156) (by omega) (by omega) (by omega)) rfl dX5_thing_171 kX5_136 (by decide) rfl (by show _ ≤ 8; simp) (by decide) zsh187 (by decide) rfl (fun v171 M171 q171 => ?_)
        obtain ⟨rfl, N171, rfl, hk171, hj171, ha171, hb171⟩ := q171
        try simp only [zpush]
        have k171 : zPk M N171 := k156.tr hk171
        have T171 : N171 192 = M 192 := k171.1 192 (by decide)
        have n171 : N171 187 7 = M 187 7 := k171.2 7 (by omega)
        rw [T156, n156] at ha171 hb171
        have r171r := pS_r (T := M 192) (n := M 187 7) (c := 61) (x := (N156 187 12, N156 187 11)) (by omega) (by show N156 187 11 ≤ M 187 7; omega)
        rw [← ha171, ← hb171] at r171r
        dsimp only at r171r
        have d171 : N171 187 13 = N156 187 13 := hj171 13 (by decide) (by decide)
        refine z_aload_n dX5_thing_174 rfl ?_
        refine z_aload_n dX5_thing_175 rfl ?_
        refine z_iconst dX5_thing_176 ?_
        refine z_bipush dX5_thing_177 (by decide) ?_
        refine z_callV mX5_number (vX5_number (hX.k k171) (by omega) (by omega) (by omega)) rfl dX5_thing_179 kX5_130 (by decide) rfl (by show _ ≤ 8; simp) (by decide) zsh187 (by decide) rfl (fun v179 M179 q179 => ?_)
        obtain ⟨N179, r179, rfl, rfl, hk179, hj179, ha179, hb179, hv179, hr179⟩ := q179
        try simp only [zpush]
        have k179 : zPk M N179 := k171.tr hk179
        have T179 : N179 192 = M 192 := k179.1 192 (by decide)
        have n179 : N179 187 7 = M 187 7 := k179.2 7 (by omega)
        rw [T171, n171] at ha179 hb179 hv179
        have r179r := pM_r (T := M 192) (n := M 187 7) (lo := 0) (hi := 9) (x := (N171 187 12, N171 187 11)) (by omega) (by show N171 187 11 ≤ M 187 7; omega)
        rw [← ha179, ← hb179] at r179r
        dsimp only at r179r
        have d179 : N179 187 13 = N171 187 13 := hj179 13 (by decide) (by decide)
        refine z_oput (kI := 16) dX5_thing_182 fX5_143 rfl (Or.inl rfl) (by decide) (by decide) zsh187 rfl rfl (fun N182 hN182 => ?_)
        refine z_vret dX5_thing_185 rfl ?_
        have k182 : zPk M N182 := by rw [hN182]; exact k179.up (by omega)
        have T182 : N182 192 = M 192 := k182.1 192 (by decide)
        have n182 : N182 187 7 = M 187 7 := k182.2 7 (by omega)
        have a182 : N182 187 12 = N179 187 12 := by rw [hN182, zm_up_ne (by decide)]
        have b182 : N182 187 11 = N179 187 11 := by rw [hN182, zm_up_ne (by decide)]
        have d182 : N182 187 13 = N179 187 13 := by rw [hN182, zm_up_ne (by decide)]
        have xA : pA (M 192) (M 187 7) (M 187 11) = (N111 187 12, N111 187 11) := by unfold pA; rw [a111, b111, ha108, hb108, a80, b80, hc.1]
        have xB : pB2 (M 192) (M 187 7) (M 187 11) = (N131 187 12, N131 187 11) := by unfold pB2; rw [xA, ha131, hb131]
        have xB3 : pM (M 192) (M 187 7) 0 19 (pB2 (M 192) (M 187 7) (M 187 11)) = (N156 187 12, N156 187 11) := by rw [xB, a156, b156, ha153, hb153]
        have xC : pC (M 192) (M 187 7) (M 187 11) = (N171 187 12, N171 187 11) := by unfold pC; rw [xB3, ha171, hb171]
        have xT : pT (M 192) (M 187 7) (M 187 11) = (N182 187 12, N182 187 11) := by unfold pT; rw [← hkd, if_neg (by omega), if_neg (by omega), if_pos hc.2, xC, a182, b182, ha179, hb179]
        have e1 : N182 187 12 = 0 → p1 (M 192) (M 187 7) (M 187 11) = r108 := fun q => by unfold p1; rw [← hkd, if_neg (by omega), hv108 (by omega), b80]
        have e2 : N182 187 12 = 0 → p2 (M 192) (M 187 7) (M 187 11) = r153 := fun q => by unfold p2; rw [← hkd, if_neg (by omega), xB, hv153 (by omega)]
        have e3 : N182 187 12 = 0 → p3 (M 192) (M 187 7) (M 187 11) = r179 := fun q => by unfold p3; rw [xC, hv179 (by omega)]
        have z182 : N182 187 14 = r108 := by rw [hN182, zm_up_ne (by decide), hj179 14 (by decide) (by decide), hj171 14 (by decide) (by decide), z156]
        have y182 : N182 187 15 = r153 := by rw [hN182, zm_up_ne (by decide), hj179 15 (by decide) (by decide), hj171 15 (by decide) (by decide), y156]
        refine ⟨rfl, N182, rfl, k182, by rw [xT], by rw [xT], fun q => ⟨by rw [← hkd, d182, d179, d171, d156, d153, d131, d111, d108, d80], ?_, fun q2 => ?_, fun q2 => ?_⟩⟩
        · rw [e1 q]
          exact ⟨z182, by omega, by omega⟩
        · rw [e2 q]
          exact ⟨y182, by omega, by omega⟩
        · rw [e3 q]
          exact ⟨by rw [hN182, zm_up_at], by omega, by omega⟩
      · skip
        refine z_aload_n dX5_thing_62 rfl ?_
        refine z_dup dX5_thing_63 ?_
        refine z_oget (kI := 11) dX5_thing_64 fX5_116 (by decide) (by decide) zsh187 rfl rfl ?_
        refine z_aload_n dX5_thing_67 rfl ?_
        refine z_oget (kI := 12) dX5_thing_68 fX5_119 (by decide) (by decide) zsh187 rfl rfl ?_
        refine z_if_eq (tgt := 78) dX5_thing_71 (by decide) (by omega) (fun h => absurd h (by omega)) (fun c71 => ?_)
        refine z_iconst dX5_thing_74 ?_
        refine z_goto (tgt := 79) dX5_thing_75 (by decide) ?_
        refine z_iadd dX5_thing_79 ?_
        refine z_oput (kI := 11) dX5_thing_80 fX5_116 rfl (Or.inl rfl) (by decide) (by decide) zsh187 rfl rfl (fun N80 hN80 => ?_)
        have k80 : zPk M N80 := by rw [hN80]; exact k59.up (by omega)
        have T80 : N80 192 = M 192 := k80.1 192 (by decide)
        have n80 : N80 187 7 = M 187 7 := k80.2 7 (by omega)
        have a80 : N80 187 12 = w := by rw [hN80, zm_up_ne (by decide), f12]
        have b80 := congrFun (congrFun hN80 187) 11
        rw [zm_up_at, f11] at b80
        have d80 : N80 187 13 = kd := by rw [hN80, zm_up_ne (by decide), f13]
        refine z_aload_n dX5_thing_83 rfl ?_
        refine z_oget (kI := 13) dX5_thing_84 fX5_127 (by decide) (by decide) zsh187 rfl rfl ?_
        refine z_bipush dX5_thing_87 (by decide) ?_
        refine z_icmp_ne (tgt := 104) dX5_thing_89 (by decide) (by omega) (by omega) (fun c89 => ?_) (fun h => absurd h (by omega))
        refine z_aload_n dX5_thing_104 rfl ?_
        refine z_aload_n dX5_thing_105 rfl ?_
        refine z_iconst dX5_thing_106 ?_
        refine z_iconst dX5_thing_107 ?_
        refine z_callV mX5_number (vX5_number (hX.k k80) (by omega) (by omega) (by omega)) rfl dX5_thing_108 kX5_130 (by decide) rfl (by show _ ≤ 8; simp) (by decide) zsh187 (by decide) rfl (fun v108 M108 q108 => ?_)
        obtain ⟨N108, r108, rfl, rfl, hk108, hj108, ha108, hb108, hv108, hr108⟩ := q108
        try simp only [zpush]
        have k108 : zPk M N108 := k80.tr hk108
        have T108 : N108 192 = M 192 := k108.1 192 (by decide)
        have n108 : N108 187 7 = M 187 7 := k108.2 7 (by omega)
        rw [T80, n80] at ha108 hb108 hv108
        have r108r := pM_r (T := M 192) (n := M 187 7) (lo := 0) (hi := 5) (x := (N80 187 12, N80 187 11)) (by omega) (by show N80 187 11 ≤ M 187 7; omega)
        rw [← ha108, ← hb108] at r108r
        dsimp only at r108r
        have d108 : N108 187 13 = N80 187 13 := hj108 13 (by decide) (by decide)
        refine z_oput (kI := 14) dX5_thing_111 fX5_133 rfl (Or.inl rfl) (by decide) (by decide) zsh187 rfl rfl (fun N111 hN111 => ?_)
        have k111 : zPk M N111 := by rw [hN111]; exact k108.up (by omega)
        have T111 : N111 192 = M 192 := k111.1 192 (by decide)
        have n111 : N111 187 7 = M 187 7 := k111.2 7 (by omega)
        have a111 : N111 187 12 = N108 187 12 := by rw [hN111, zm_up_ne (by decide)]
        have b111 : N111 187 11 = N108 187 11 := by rw [hN111, zm_up_ne (by decide)]
        have d111 : N111 187 13 = N108 187 13 := by rw [hN111, zm_up_ne (by decide)]
        have z111 : N111 187 14 = r108 := by rw [hN111, zm_up_at]
        refine z_aload_n dX5_thing_114 rfl ?_
        refine z_aload_n dX5_thing_115 rfl ?_
        refine z_oget (kI := 13) dX5_thing_116 fX5_127 (by decide) (by decide) zsh187 rfl rfl ?_
        refine z_bipush dX5_thing_119 (by decide) ?_
        refine z_icmp_ne (tgt := 129) dX5_thing_121 (by decide) (by omega) (by omega) (fun c121 => ?_) (fun h => absurd h (by omega))
        refine z_bipush dX5_thing_129 (by decide) ?_
        refine z_callV mX5_sign (vX5_sign (hX.k k111) (by omega) (by omega) (by omega)) rfl dX5_thing_131 kX5_136 (by decide) rfl (by show _ ≤ 8; simp) (by decide) zsh187 (by decide) rfl (fun v131 M131 q131 => ?_)
        obtain ⟨rfl, N131, rfl, hk131, hj131, ha131, hb131⟩ := q131
        try simp only [zpush]
        have k131 : zPk M N131 := k111.tr hk131
        have T131 : N131 192 = M 192 := k131.1 192 (by decide)
        have n131 : N131 187 7 = M 187 7 := k131.2 7 (by omega)
        rw [T111, n111] at ha131 hb131
        have r131r := pS_r (T := M 192) (n := M 187 7) (c := 46) (x := (N111 187 12, N111 187 11)) (by omega) (by show N111 187 11 ≤ M 187 7; omega)
        rw [← ha131, ← hb131] at r131r
        dsimp only at r131r
        have d131 : N131 187 13 = N111 187 13 := hj131 13 (by decide) (by decide)
        refine z_aload_n dX5_thing_134 rfl ?_
        refine z_aload_n dX5_thing_135 rfl ?_
        refine z_iconst dX5_thing_136 ?_
        refine z_aload_n dX5_thing_137 rfl ?_
        refine z_oget (kI := 13) dX5_thing_138 fX5_127 (by decide) (by decide) zsh187 rfl rfl ?_
        refine z_bipush dX5_thing_141 (by decide) ?_
        refine z_icmp_ne (tgt := 151) dX5_thing_143 (by decide) (by omega) (by omega) (fun c143 => ?_) (fun h => absurd h (by omega))
        refine z_bipush dX5_thing_151 (by decide) ?_
        refine z_callV mX5_number (vX5_number (hX.k k131) (by omega) (by omega) (by omega)) rfl dX5_thing_153 kX5_130 (by decide) rfl (by show _ ≤ 8; simp) (by decide) zsh187 (by decide) rfl (fun v153 M153 q153 => ?_)
        obtain ⟨N153, r153, rfl, rfl, hk153, hj153, ha153, hb153, hv153, hr153⟩ := q153
        try simp only [zpush]
        have k153 : zPk M N153 := k131.tr hk153
        have T153 : N153 192 = M 192 := k153.1 192 (by decide)
        have n153 : N153 187 7 = M 187 7 := k153.2 7 (by omega)
        rw [T131, n131] at ha153 hb153 hv153
        have r153r := pM_r (T := M 192) (n := M 187 7) (lo := 0) (hi := 19) (x := (N131 187 12, N131 187 11)) (by omega) (by show N131 187 11 ≤ M 187 7; omega)
        rw [← ha153, ← hb153] at r153r
        dsimp only at r153r
        have d153 : N153 187 13 = N131 187 13 := hj153 13 (by decide) (by decide)
        refine z_oput (kI := 15) dX5_thing_156 fX5_140 rfl (Or.inl rfl) (by decide) (by decide) zsh187 rfl rfl (fun N156 hN156 => ?_)
        have k156 : zPk M N156 := by rw [hN156]; exact k153.up (by omega)
        have T156 : N156 192 = M 192 := k156.1 192 (by decide)
        have n156 : N156 187 7 = M 187 7 := k156.2 7 (by omega)
        have a156 : N156 187 12 = N153 187 12 := by rw [hN156, zm_up_ne (by decide)]
        have b156 : N156 187 11 = N153 187 11 := by rw [hN156, zm_up_ne (by decide)]
        have d156 : N156 187 13 = N153 187 13 := by rw [hN156, zm_up_ne (by decide)]
        have z156 : N156 187 14 = r108 := by rw [hN156, zm_up_ne (by decide), hj153 14 (by decide) (by decide), hj131 14 (by decide) (by decide), z111]
        have y156 : N156 187 15 = r153 := by rw [hN156, zm_up_at]
        refine z_aload_n dX5_thing_159 rfl ?_
        refine z_oget (kI := 13) dX5_thing_160 fX5_127 (by decide) (by decide) zsh187 rfl rfl ?_
        refine z_bipush dX5_thing_163 (by decide) ?_
        refine z_icmp_ne (tgt := 185) dX5_thing_165 (by decide) (by omega) (by omega) (fun c165 => ?_) (fun h => absurd h (by omega))
        refine z_vret dX5_thing_185 rfl ?_
        have xT : pT (M 192) (M 187 7) (M 187 11) = (1, M 187 11) := by unfold pT; rw [← hkd, if_neg (by omega), if_neg (by omega), if_neg (by omega)]
        refine ⟨rfl, N156, rfl, k156, by rw [xT]; show N156 187 12 = 1; omega, by rw [xT]; show N156 187 11 = M 187 11; omega, fun q => by omega⟩
    refine z_aload_n dX5_thing_19 rfl ?_
    refine z_aload_n dX5_thing_20 rfl ?_
    refine z_oget (kI := 12) dX5_thing_21 fX5_119 (by decide) (by decide) zsh187 rfl rfl ?_
    refine z_if_ne (tgt := 54) dX5_thing_24 (by decide) (by omega) (fun c24 => ?_) (fun c24 => ?_)
    · refine z_iconst dX5_thing_54 ?_
      refine z_goto (tgt := 59) dX5_thing_55 (by decide) ?_
      exact zsub' (J _ (by omega)) ⟨rfl, trivial⟩
    · refine z_aload_n dX5_thing_27 rfl ?_
      refine z_oget (kI := 13) dX5_thing_28 fX5_127 (by decide) (by decide) zsh187 rfl rfl ?_
      refine z_bipush dX5_thing_31 (by decide) ?_
      refine z_icmp_eq (tgt := 58) dX5_thing_33 (by decide) (by omega) (by omega) (fun c33 => ?_) (fun c33 => ?_)
      · refine z_iconst dX5_thing_58 ?_
        exact zsub' (J _ (by omega)) ⟨rfl, trivial⟩
      · refine z_aload_n dX5_thing_36 rfl ?_
        refine z_oget (kI := 13) dX5_thing_37 fX5_127 (by decide) (by decide) zsh187 rfl rfl ?_
        refine z_bipush dX5_thing_40 (by decide) ?_
        refine z_icmp_eq (tgt := 58) dX5_thing_42 (by decide) (by omega) (by omega) (fun c42 => ?_) (fun c42 => ?_)
        · refine z_iconst dX5_thing_58 ?_
          exact zsub' (J _ (by omega)) ⟨rfl, trivial⟩
        · refine z_aload_n dX5_thing_45 rfl ?_
          refine z_oget (kI := 13) dX5_thing_46 fX5_127 (by decide) (by decide) zsh187 rfl rfl ?_
          refine z_bipush dX5_thing_49 (by decide) ?_
          refine z_icmp_eq (tgt := 58) dX5_thing_51 (by decide) (by omega) (by omega) (fun c51 => ?_) (fun c51 => ?_)
          · refine z_iconst dX5_thing_58 ?_
            exact zsub' (J _ (by omega)) ⟨rfl, trivial⟩
          · refine z_iconst dX5_thing_54 ?_
            refine z_goto (tgt := 59) dX5_thing_55 (by decide) ?_
            exact zsub' (J _ (by omega)) ⟨rfl, trivial⟩
  · exfalso; omega
