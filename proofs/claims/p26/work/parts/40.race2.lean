def zTh (T : zS) (n i : Int) (M : zM) (d : Int) : Prop := M 180 d = pN T n i ∧ (pN T n i = 46 → M 183 d = p1 T n i) ∧ (pN T n i = 115 → M 181 d = p1 T n i ∧ M 183 d = p2 T n i) ∧ (pN T n i = 102 → M 181 d = p1 T n i ∧ M 182 d = p2 T n i ∧ M 183 d = p3 T n i)
theorem zTh.mv {T : zS} {n i d : Int} {N N' : zM} (h : zTh T n i N d) (he : ∀ a : Int, 180 ≤ a → a ≤ 183 → N' a d = N a d) : zTh T n i N' d := by
  unfold zTh at h ⊢
  rw [he 180 (by omega) (by omega), he 181 (by omega) (by omega), he 182 (by omega) (by omega), he 183 (by omega) (by omega)]
  exact h
def zq (T : zS) (n : Int) : Nat → Int
  | 0 => 0
  | m + 1 => (pT T n (zq T n m)).2 + 1
def zCr (M N : zM) : Prop := (∀ a : Int, (a < 178 ∨ a = 179 ∨ 184 ≤ a) → N a = M a) ∧ N 178 1 = M 178 1

theorem vX2_readThing {G : zG} {M : zM} {T : zS} {n i : Int} {d : Int} (hA : zAt M T n i) (hT : zTc T n) (hi : 0 ≤ i ∧ i ≤ n) (hd : 0 ≤ d ∧ d < 21) : zCall G yX2_readThing YX2_readThing [.inr (some 178), .inl d] M (fun v M' => ∃ zb : Int, v = some (.inl zb) ∧ zCh M d M' ∧ zAt M' T n (pT T n i).2 ∧ ((zb = 1 ∧ (pT T n i).1 = 0 ∧ zTh T n i M' d) ∨ (zb = 0 ∧ ¬ (pT T n i).1 = 0))) := by
  refine zEnter (by decide +kernel) rfl (Nat.le_of_ble_eq_true rfl) ?_
  refine z_aload_n dX2_readThing_0 rfl ?_
  refine z_callV mX2_signHere (vX2_signHere hA hT (by omega)) rfl dX2_readThing_1 kX2_46 (by decide) rfl (by show _ ≤ 8; simp) (by decide) (zsh178) (by decide) rfl (fun v1 M1 q1 => ?_)
  obtain ⟨rfl, rfl⟩ := q1
  try simp only [zpush]
  have hp := pN_r hT.2 (n := n) (i := i) (by omega)
  refine z_istore_n dX2_readThing_4 (by decide) ?_
  refine z_iload_n dX2_readThing_5 rfl ?_
  refine z_if_lt (tgt := 20) dX2_readThing_6 (by decide) (by omega) (fun c6 => ?_) (fun c6 => ?_)
  · refine z_iconst dX2_readThing_20 ?_
    refine z_zret dX2_readThing_21 rfl (by omega) ?_
    first
      | (exfalso; omega)
      | (have eT : pT T n i = (1, i) := by unfold pT; rw [if_neg (by omega), if_neg (by omega), if_neg (by omega)]
         exact ⟨_, rfl, zCh.rf M d, by rw [eT]; exact hA, Or.inr ⟨rfl, by rw [eT]; exact fun e => absurd (show (1 : Int) = 0 from e) (by decide)⟩⟩)
  · refine z_iload_n dX2_readThing_9 rfl ?_
    refine z_bipush dX2_readThing_10 (by decide) ?_
    refine z_icmp_ge (tgt := 20) dX2_readThing_12 (by decide) (by omega) (by omega) (fun c12 => ?_) (fun c12 => ?_)
    · refine z_iconst dX2_readThing_20 ?_
      refine z_zret dX2_readThing_21 rfl (by omega) ?_
      first
        | (exfalso; omega)
        | (have eT : pT T n i = (1, i) := by unfold pT; rw [if_neg (by omega), if_neg (by omega), if_neg (by omega)]
           exact ⟨_, rfl, zCh.rf M d, by rw [eT]; exact hA, Or.inr ⟨rfl, by rw [eT]; exact fun e => absurd (show (1 : Int) = 0 from e) (by decide)⟩⟩)
    · refine z_iload_n dX2_readThing_15 rfl ?_
      refine z_iconst dX2_readThing_16 ?_
      refine z_icmp_ne (tgt := 22) dX2_readThing_17 (by decide) (by omega) (by omega) (fun c17 => ?_) (fun c17 => ?_)
      · refine z_aload_n dX2_readThing_22 rfl ?_
        refine z_getR (b := 180) dX2_readThing_23 fX2_25 (by decide) (zsh178) rfl rfl ?_
        refine z_iload_n dX2_readThing_26 rfl ?_
        refine z_iload_n dX2_readThing_27 rfl ?_
        refine z_niast dX2_readThing_28 (by decide) (zsh180) (by omega) (by decide) (fun N28 hN28 => ?_)
        have hA1 : zAt N28 T n i := by rw [hN28]; exact hA.ar (by omega)
        have hC1 : zCh M d N28 := by
          intro a j q1 q2
          rw [hN28, zm_up_if, if_neg (by omega)]
        have hs1 : N28 180 d = pN T n i := by rw [hN28, zm_up_at]
        refine z_iload_n dX2_readThing_29 rfl ?_
        rcases (show (pN T n i) = 46 ∨ (pN T n i) = 102 ∨ (pN T n i) = 115 ∨ (¬ (pN T n i) = 46 ∧ ¬ (pN T n i) = 102 ∧ ¬ (pN T n i) = 115) by omega) with h30 | h30 | h30 | h30
        · refine z_look (off := 166) (tgt := 196) dX2_readThing_30 (by decide) (by omega) (by rw [h30]; rfl) (by decide) ?_
          refine z_aload_n dX2_readThing_196 rfl ?_
          refine z_dup dX2_readThing_197 ?_
          refine z_getI (kI := 2) dX2_readThing_198 fX2_19 (by decide) (zsh178) rfl rfl ?_
          refine z_iconst dX2_readThing_201 ?_
          refine z_iadd dX2_readThing_202 ?_
          refine z_nput (kI := 2) dX2_readThing_203 fX2_19 rfl (Or.inl rfl) (by decide) (zsh178) rfl rfl (fun N203 hN203 => ?_)
          rw [hA1.2.2] at hN203
          have hA2 : zAt N203 T n (i + 1) := by rw [hN203]; exact hA1.up
          have hC2 : zCh M d N203 := by rw [hN203]; exact hC1.at'
          have v180_2 : N203 180 d = pN T n i := by rw [hN203, zm_up_off (by omega)]; exact hs1
          have hin := pN_in (T := T) (n := n) (i := i) (by omega)
          have hr2 : 0 ≤ i + 1 ∧ i + 1 ≤ n := by omega
          refine z_aload_n dX2_readThing_206 rfl ?_
          refine z_aload_n dX2_readThing_207 rfl ?_
          refine z_getR (b := 183) dX2_readThing_208 fX2_35 (by decide) (zsh178) rfl rfl ?_
          refine z_iload_n dX2_readThing_211 rfl ?_
          refine z_iconst dX2_readThing_212 ?_
          refine z_bipush dX2_readThing_213 (by decide) ?_
          refine z_callV mX2_readNumber (vX2_readNumber hA2 hT hr2 (by decide) hd (by decide) (by decide)) rfl dX2_readThing_215 kX2_50 (by decide) rfl (by show _ ≤ 8; simp) (by decide) (zsh178) (by decide) rfl (fun v215 M215 q215 => ?_)
          obtain ⟨b215, rfl, h215⟩ := q215
          try simp only [zpush]
          refine z_zret dX2_readThing_218 rfl (by rcases h215 with h | h <;> (have := h.1; omega)) ?_
          rcases h215 with h215 | ⟨hb0, hcf, hMf⟩
          · obtain ⟨hb1, hc215, hA3, hv215, hO215⟩ := h215
            have hC3 := hC2.num hO215 (by decide)
            have y215 := pM_y hc215
            have v180_3 : M215 180 d = pN T n i := (hO215 180 d (by omega) (by omega)).trans v180_2
            have v183_3 : M215 183 d = nV T n 99 (i + 1) := hv215
            have hr3 : 0 ≤ (nE T n 99 (i + 1)) ∧ (nE T n 99 (i + 1)) ≤ n := ⟨by have := nE_r T n 99 (i + 1); omega, nE_n (by omega)⟩
            have eT : pT T n i = (0, (nE T n 99 (i + 1))) := (by unfold pT; rw [if_pos h30]; rw [y215])
            exact ⟨_, rfl, hC3, by rw [eT]; exact hA3, Or.inl ⟨hb1, by rw [eT], by unfold zTh; exact ⟨v180_3, fun _ => by unfold p1; rw [if_pos h30]; exact v183_3, fun q => absurd q (by omega), fun q => absurd q (by omega)⟩⟩⟩
          · have eT : pT T n i = (1, (i + 1)) := by unfold pT; rw [if_pos h30, pM_n hcf]
            exact ⟨_, rfl, by rw [hMf]; exact hC2, by rw [eT, hMf]; exact hA2, Or.inr ⟨hb0, by rw [eT]; exact fun e => absurd (show (1 : Int) = 0 from e) (by decide)⟩⟩
        · refine z_look (off := 88) (tgt := 118) dX2_readThing_30 (by decide) (by omega) (by rw [h30]; rfl) (by decide) ?_
          refine z_aload_n dX2_readThing_118 rfl ?_
          refine z_dup dX2_readThing_119 ?_
          refine z_getI (kI := 2) dX2_readThing_120 fX2_19 (by decide) (zsh178) rfl rfl ?_
          refine z_iconst dX2_readThing_123 ?_
          refine z_iadd dX2_readThing_124 ?_
          refine z_nput (kI := 2) dX2_readThing_125 fX2_19 rfl (Or.inl rfl) (by decide) (zsh178) rfl rfl (fun N125 hN125 => ?_)
          rw [hA1.2.2] at hN125
          have hA2 : zAt N125 T n (i + 1) := by rw [hN125]; exact hA1.up
          have hC2 : zCh M d N125 := by rw [hN125]; exact hC1.at'
          have v180_2 : N125 180 d = pN T n i := by rw [hN125, zm_up_off (by omega)]; exact hs1
          have hin := pN_in (T := T) (n := n) (i := i) (by omega)
          have hr2 : 0 ≤ i + 1 ∧ i + 1 ≤ n := by omega
          refine z_aload_n dX2_readThing_128 rfl ?_
          refine z_aload_n dX2_readThing_129 rfl ?_
          refine z_getR (b := 181) dX2_readThing_130 fX2_29 (by decide) (zsh178) rfl rfl ?_
          refine z_iload_n dX2_readThing_133 rfl ?_
          refine z_iconst dX2_readThing_134 ?_
          refine z_iconst dX2_readThing_135 ?_
          refine z_callV mX2_readNumber (vX2_readNumber hA2 hT hr2 (by decide) hd (by decide) (by decide)) rfl dX2_readThing_136 kX2_50 (by decide) rfl (by show _ ≤ 8; simp) (by decide) (zsh178) (by decide) rfl (fun v136 M136 q136 => ?_)
          obtain ⟨b136, rfl, h136⟩ := q136
          try simp only [zpush]
          refine z_if_eq (tgt := 194) dX2_readThing_139 (by decide) (by omega) (fun c139 => ?_) (fun c139 => ?_)
          · refine z_iconst dX2_readThing_194 ?_
            refine z_zret dX2_readThing_195 rfl (by omega) ?_
            first
              | (have eT : pT T n i = (0, (nE T n 9 ((nE T n 19 ((nE T n 5 (i + 1)) + 1)) + 1))) := (by unfold pT; rw [if_neg (by omega), if_neg (by omega), if_pos h30]; unfold pC pB2 pA; rw [y136, y145, y160, y169, y184]); exact ⟨_, rfl, hC7, by rw [eT]; exact hA7, Or.inl ⟨rfl, by rw [eT], by unfold zTh; exact ⟨v180_7, fun q => absurd q (by omega), fun q => absurd q (by omega), fun _ => ⟨by unfold p1; rw [if_neg (by omega)]; exact v181_7, by unfold p2; rw [if_neg (by omega)]; unfold pB2 pA; rw [y136, y145]; exact v182_7, by unfold p3 pC pB2 pA; rw [y136, y145, y160, y169]; exact v183_7⟩⟩⟩⟩)
              | (obtain ⟨_, hcf, hMf⟩ := h136.resolve_left (fun q => by have := q.1; omega); have eT : pT T n i = (1, (i + 1)) := by unfold pT; rw [if_neg (by omega), if_neg (by omega), if_pos h30]; unfold pC pB2 pA; rw [pM_n hcf, pS_1, pM_1, pS_1, pM_1]
                 exact ⟨_, rfl, by rw [hMf]; exact hC2, by rw [eT, hMf]; exact hA2, Or.inr ⟨rfl, by rw [eT]; exact fun e => absurd (show (1 : Int) = 0 from e) (by decide)⟩⟩)
              | (obtain ⟨_, hcf, hMf⟩ := h145.resolve_left (fun q => by have := q.1; omega); have eT : pT T n i = (1, (nE T n 5 (i + 1))) := by unfold pT; rw [if_neg (by omega), if_neg (by omega), if_pos h30]; unfold pC pB2 pA; rw [y136, pS_n hcf, pM_1, pS_1, pM_1]
                 exact ⟨_, rfl, by rw [hMf]; exact hC3, by rw [eT, hMf]; exact hA3, Or.inr ⟨rfl, by rw [eT]; exact fun e => absurd (show (1 : Int) = 0 from e) (by decide)⟩⟩)
              | (obtain ⟨_, hcf, hMf⟩ := h160.resolve_left (fun q => by have := q.1; omega); have eT : pT T n i = (1, ((nE T n 5 (i + 1)) + 1)) := by unfold pT; rw [if_neg (by omega), if_neg (by omega), if_pos h30]; unfold pC pB2 pA; rw [y136, y145, pM_n hcf, pS_1, pM_1]
                 exact ⟨_, rfl, by rw [hMf]; exact hC4, by rw [eT, hMf]; exact hA4, Or.inr ⟨rfl, by rw [eT]; exact fun e => absurd (show (1 : Int) = 0 from e) (by decide)⟩⟩)
              | (obtain ⟨_, hcf, hMf⟩ := h169.resolve_left (fun q => by have := q.1; omega); have eT : pT T n i = (1, (nE T n 19 ((nE T n 5 (i + 1)) + 1))) := by unfold pT; rw [if_neg (by omega), if_neg (by omega), if_pos h30]; unfold pC pB2 pA; rw [y136, y145, y160, pS_n hcf, pM_1]
                 exact ⟨_, rfl, by rw [hMf]; exact hC5, by rw [eT, hMf]; exact hA5, Or.inr ⟨rfl, by rw [eT]; exact fun e => absurd (show (1 : Int) = 0 from e) (by decide)⟩⟩)
              | (obtain ⟨_, hcf, hMf⟩ := h184.resolve_left (fun q => by have := q.1; omega); have eT : pT T n i = (1, ((nE T n 19 ((nE T n 5 (i + 1)) + 1)) + 1)) := by unfold pT; rw [if_neg (by omega), if_neg (by omega), if_pos h30]; unfold pC pB2 pA; rw [y136, y145, y160, y169, pM_n hcf]
                 exact ⟨_, rfl, by rw [hMf]; exact hC6, by rw [eT, hMf]; exact hA6, Or.inr ⟨rfl, by rw [eT]; exact fun e => absurd (show (1 : Int) = 0 from e) (by decide)⟩⟩)
          · obtain ⟨_, hc136, hA3, hv136, hO136⟩ := h136.resolve_right (fun q => c139 q.1)
            have hC3 := hC2.num hO136 (by decide)
            have y136 := pM_y hc136
            have v180_3 : M136 180 d = pN T n i := (hO136 180 d (by omega) (by omega)).trans v180_2
            have v181_3 : M136 181 d = nV T n 5 (i + 1) := hv136
            have hr3 : 0 ≤ (nE T n 5 (i + 1)) ∧ (nE T n 5 (i + 1)) ≤ n := ⟨by have := nE_r T n 5 (i + 1); omega, nE_n (by omega)⟩
            refine z_aload_n dX2_readThing_142 rfl ?_
            refine z_bipush dX2_readThing_143 (by decide) ?_
            refine z_callV mX2_readSign (vX2_readSign hA3 hT hr3 (by decide)) rfl dX2_readThing_145 kX2_42 (by decide) rfl (by show _ ≤ 8; simp) (by decide) (zsh178) (by decide) rfl (fun v145 M145 q145 => ?_)
            obtain ⟨b145, rfl, h145⟩ := q145
            try simp only [zpush]
            refine z_if_eq (tgt := 194) dX2_readThing_148 (by decide) (by omega) (fun c148 => ?_) (fun c148 => ?_)
            · refine z_iconst dX2_readThing_194 ?_
              refine z_zret dX2_readThing_195 rfl (by omega) ?_
              first
                | (have eT : pT T n i = (0, (nE T n 9 ((nE T n 19 ((nE T n 5 (i + 1)) + 1)) + 1))) := (by unfold pT; rw [if_neg (by omega), if_neg (by omega), if_pos h30]; unfold pC pB2 pA; rw [y136, y145, y160, y169, y184]); exact ⟨_, rfl, hC7, by rw [eT]; exact hA7, Or.inl ⟨rfl, by rw [eT], by unfold zTh; exact ⟨v180_7, fun q => absurd q (by omega), fun q => absurd q (by omega), fun _ => ⟨by unfold p1; rw [if_neg (by omega)]; exact v181_7, by unfold p2; rw [if_neg (by omega)]; unfold pB2 pA; rw [y136, y145]; exact v182_7, by unfold p3 pC pB2 pA; rw [y136, y145, y160, y169]; exact v183_7⟩⟩⟩⟩)
                | (obtain ⟨_, hcf, hMf⟩ := h136.resolve_left (fun q => by have := q.1; omega); have eT : pT T n i = (1, (i + 1)) := by unfold pT; rw [if_neg (by omega), if_neg (by omega), if_pos h30]; unfold pC pB2 pA; rw [pM_n hcf, pS_1, pM_1, pS_1, pM_1]
                   exact ⟨_, rfl, by rw [hMf]; exact hC2, by rw [eT, hMf]; exact hA2, Or.inr ⟨rfl, by rw [eT]; exact fun e => absurd (show (1 : Int) = 0 from e) (by decide)⟩⟩)
                | (obtain ⟨_, hcf, hMf⟩ := h145.resolve_left (fun q => by have := q.1; omega); have eT : pT T n i = (1, (nE T n 5 (i + 1))) := by unfold pT; rw [if_neg (by omega), if_neg (by omega), if_pos h30]; unfold pC pB2 pA; rw [y136, pS_n hcf, pM_1, pS_1, pM_1]
                   exact ⟨_, rfl, by rw [hMf]; exact hC3, by rw [eT, hMf]; exact hA3, Or.inr ⟨rfl, by rw [eT]; exact fun e => absurd (show (1 : Int) = 0 from e) (by decide)⟩⟩)
                | (obtain ⟨_, hcf, hMf⟩ := h160.resolve_left (fun q => by have := q.1; omega); have eT : pT T n i = (1, ((nE T n 5 (i + 1)) + 1)) := by unfold pT; rw [if_neg (by omega), if_neg (by omega), if_pos h30]; unfold pC pB2 pA; rw [y136, y145, pM_n hcf, pS_1, pM_1]
                   exact ⟨_, rfl, by rw [hMf]; exact hC4, by rw [eT, hMf]; exact hA4, Or.inr ⟨rfl, by rw [eT]; exact fun e => absurd (show (1 : Int) = 0 from e) (by decide)⟩⟩)
                | (obtain ⟨_, hcf, hMf⟩ := h169.resolve_left (fun q => by have := q.1; omega); have eT : pT T n i = (1, (nE T n 19 ((nE T n 5 (i + 1)) + 1))) := by unfold pT; rw [if_neg (by omega), if_neg (by omega), if_pos h30]; unfold pC pB2 pA; rw [y136, y145, y160, pS_n hcf, pM_1]
                   exact ⟨_, rfl, by rw [hMf]; exact hC5, by rw [eT, hMf]; exact hA5, Or.inr ⟨rfl, by rw [eT]; exact fun e => absurd (show (1 : Int) = 0 from e) (by decide)⟩⟩)
                | (obtain ⟨_, hcf, hMf⟩ := h184.resolve_left (fun q => by have := q.1; omega); have eT : pT T n i = (1, ((nE T n 19 ((nE T n 5 (i + 1)) + 1)) + 1)) := by unfold pT; rw [if_neg (by omega), if_neg (by omega), if_pos h30]; unfold pC pB2 pA; rw [y136, y145, y160, y169, pM_n hcf]
                   exact ⟨_, rfl, by rw [hMf]; exact hC6, by rw [eT, hMf]; exact hA6, Or.inr ⟨rfl, by rw [eT]; exact fun e => absurd (show (1 : Int) = 0 from e) (by decide)⟩⟩)
            · obtain ⟨_, hc145, hM145⟩ := h145.resolve_right (fun q => c148 q.1)
              have hA4 : zAt M145 T n ((nE T n 5 (i + 1)) + 1) := by rw [hM145]; exact hA3.up
              have hC4 : zCh M d M145 := by rw [hM145]; exact hC3.at'
              have y145 := pS_y hc145
              have v180_4 : M145 180 d = pN T n i := by rw [hM145, zm_up_off (by omega)]; exact v180_3
              have v181_4 : M145 181 d = nV T n 5 (i + 1) := by rw [hM145, zm_up_off (by omega)]; exact v181_3
              have hr4 : 0 ≤ ((nE T n 5 (i + 1)) + 1) ∧ ((nE T n 5 (i + 1)) + 1) ≤ n := by have := pN_in (T := T) (n := n) (i := (nE T n 5 (i + 1))) (by omega); omega
              refine z_aload_n dX2_readThing_151 rfl ?_
              refine z_aload_n dX2_readThing_152 rfl ?_
              refine z_getR (b := 182) dX2_readThing_153 fX2_32 (by decide) (zsh178) rfl rfl ?_
              refine z_iload_n dX2_readThing_156 rfl ?_
              refine z_iconst dX2_readThing_157 ?_
              refine z_bipush dX2_readThing_158 (by decide) ?_
              refine z_callV mX2_readNumber (vX2_readNumber hA4 hT hr4 (by decide) hd (by decide) (by decide)) rfl dX2_readThing_160 kX2_50 (by decide) rfl (by show _ ≤ 8; simp) (by decide) (zsh178) (by decide) rfl (fun v160 M160 q160 => ?_)
              obtain ⟨b160, rfl, h160⟩ := q160
              try simp only [zpush]
              refine z_if_eq (tgt := 194) dX2_readThing_163 (by decide) (by omega) (fun c163 => ?_) (fun c163 => ?_)
              · refine z_iconst dX2_readThing_194 ?_
                refine z_zret dX2_readThing_195 rfl (by omega) ?_
                first
                  | (have eT : pT T n i = (0, (nE T n 9 ((nE T n 19 ((nE T n 5 (i + 1)) + 1)) + 1))) := (by unfold pT; rw [if_neg (by omega), if_neg (by omega), if_pos h30]; unfold pC pB2 pA; rw [y136, y145, y160, y169, y184]); exact ⟨_, rfl, hC7, by rw [eT]; exact hA7, Or.inl ⟨rfl, by rw [eT], by unfold zTh; exact ⟨v180_7, fun q => absurd q (by omega), fun q => absurd q (by omega), fun _ => ⟨by unfold p1; rw [if_neg (by omega)]; exact v181_7, by unfold p2; rw [if_neg (by omega)]; unfold pB2 pA; rw [y136, y145]; exact v182_7, by unfold p3 pC pB2 pA; rw [y136, y145, y160, y169]; exact v183_7⟩⟩⟩⟩)
                  | (obtain ⟨_, hcf, hMf⟩ := h136.resolve_left (fun q => by have := q.1; omega); have eT : pT T n i = (1, (i + 1)) := by unfold pT; rw [if_neg (by omega), if_neg (by omega), if_pos h30]; unfold pC pB2 pA; rw [pM_n hcf, pS_1, pM_1, pS_1, pM_1]
                     exact ⟨_, rfl, by rw [hMf]; exact hC2, by rw [eT, hMf]; exact hA2, Or.inr ⟨rfl, by rw [eT]; exact fun e => absurd (show (1 : Int) = 0 from e) (by decide)⟩⟩)
                  | (obtain ⟨_, hcf, hMf⟩ := h145.resolve_left (fun q => by have := q.1; omega); have eT : pT T n i = (1, (nE T n 5 (i + 1))) := by unfold pT; rw [if_neg (by omega), if_neg (by omega), if_pos h30]; unfold pC pB2 pA; rw [y136, pS_n hcf, pM_1, pS_1, pM_1]
                     exact ⟨_, rfl, by rw [hMf]; exact hC3, by rw [eT, hMf]; exact hA3, Or.inr ⟨rfl, by rw [eT]; exact fun e => absurd (show (1 : Int) = 0 from e) (by decide)⟩⟩)
                  | (obtain ⟨_, hcf, hMf⟩ := h160.resolve_left (fun q => by have := q.1; omega); have eT : pT T n i = (1, ((nE T n 5 (i + 1)) + 1)) := by unfold pT; rw [if_neg (by omega), if_neg (by omega), if_pos h30]; unfold pC pB2 pA; rw [y136, y145, pM_n hcf, pS_1, pM_1]
                     exact ⟨_, rfl, by rw [hMf]; exact hC4, by rw [eT, hMf]; exact hA4, Or.inr ⟨rfl, by rw [eT]; exact fun e => absurd (show (1 : Int) = 0 from e) (by decide)⟩⟩)
                  | (obtain ⟨_, hcf, hMf⟩ := h169.resolve_left (fun q => by have := q.1; omega); have eT : pT T n i = (1, (nE T n 19 ((nE T n 5 (i + 1)) + 1))) := by unfold pT; rw [if_neg (by omega), if_neg (by omega), if_pos h30]; unfold pC pB2 pA; rw [y136, y145, y160, pS_n hcf, pM_1]
                     exact ⟨_, rfl, by rw [hMf]; exact hC5, by rw [eT, hMf]; exact hA5, Or.inr ⟨rfl, by rw [eT]; exact fun e => absurd (show (1 : Int) = 0 from e) (by decide)⟩⟩)
                  | (obtain ⟨_, hcf, hMf⟩ := h184.resolve_left (fun q => by have := q.1; omega); have eT : pT T n i = (1, ((nE T n 19 ((nE T n 5 (i + 1)) + 1)) + 1)) := by unfold pT; rw [if_neg (by omega), if_neg (by omega), if_pos h30]; unfold pC pB2 pA; rw [y136, y145, y160, y169, pM_n hcf]
                     exact ⟨_, rfl, by rw [hMf]; exact hC6, by rw [eT, hMf]; exact hA6, Or.inr ⟨rfl, by rw [eT]; exact fun e => absurd (show (1 : Int) = 0 from e) (by decide)⟩⟩)
              · obtain ⟨_, hc160, hA5, hv160, hO160⟩ := h160.resolve_right (fun q => c163 q.1)
                have hC5 := hC4.num hO160 (by decide)
                have y160 := pM_y hc160
                have v180_5 : M160 180 d = pN T n i := (hO160 180 d (by omega) (by omega)).trans v180_4
                have v181_5 : M160 181 d = nV T n 5 (i + 1) := (hO160 181 d (by omega) (by omega)).trans v181_4
                have v182_5 : M160 182 d = nV T n 19 ((nE T n 5 (i + 1)) + 1) := hv160
                have hr5 : 0 ≤ (nE T n 19 ((nE T n 5 (i + 1)) + 1)) ∧ (nE T n 19 ((nE T n 5 (i + 1)) + 1)) ≤ n := ⟨by have := nE_r T n 19 ((nE T n 5 (i + 1)) + 1); omega, nE_n (by omega)⟩
                refine z_aload_n dX2_readThing_166 rfl ?_
                refine z_bipush dX2_readThing_167 (by decide) ?_
                refine z_callV mX2_readSign (vX2_readSign hA5 hT hr5 (by decide)) rfl dX2_readThing_169 kX2_42 (by decide) rfl (by show _ ≤ 8; simp) (by decide) (zsh178) (by decide) rfl (fun v169 M169 q169 => ?_)
                obtain ⟨b169, rfl, h169⟩ := q169
                try simp only [zpush]
                refine z_if_eq (tgt := 194) dX2_readThing_172 (by decide) (by omega) (fun c172 => ?_) (fun c172 => ?_)
                · refine z_iconst dX2_readThing_194 ?_
                  refine z_zret dX2_readThing_195 rfl (by omega) ?_
                  first
                    | (have eT : pT T n i = (0, (nE T n 9 ((nE T n 19 ((nE T n 5 (i + 1)) + 1)) + 1))) := (by unfold pT; rw [if_neg (by omega), if_neg (by omega), if_pos h30]; unfold pC pB2 pA; rw [y136, y145, y160, y169, y184]); exact ⟨_, rfl, hC7, by rw [eT]; exact hA7, Or.inl ⟨rfl, by rw [eT], by unfold zTh; exact ⟨v180_7, fun q => absurd q (by omega), fun q => absurd q (by omega), fun _ => ⟨by unfold p1; rw [if_neg (by omega)]; exact v181_7, by unfold p2; rw [if_neg (by omega)]; unfold pB2 pA; rw [y136, y145]; exact v182_7, by unfold p3 pC pB2 pA; rw [y136, y145, y160, y169]; exact v183_7⟩⟩⟩⟩)
                    | (obtain ⟨_, hcf, hMf⟩ := h136.resolve_left (fun q => by have := q.1; omega); have eT : pT T n i = (1, (i + 1)) := by unfold pT; rw [if_neg (by omega), if_neg (by omega), if_pos h30]; unfold pC pB2 pA; rw [pM_n hcf, pS_1, pM_1, pS_1, pM_1]
                       exact ⟨_, rfl, by rw [hMf]; exact hC2, by rw [eT, hMf]; exact hA2, Or.inr ⟨rfl, by rw [eT]; exact fun e => absurd (show (1 : Int) = 0 from e) (by decide)⟩⟩)
                    | (obtain ⟨_, hcf, hMf⟩ := h145.resolve_left (fun q => by have := q.1; omega); have eT : pT T n i = (1, (nE T n 5 (i + 1))) := by unfold pT; rw [if_neg (by omega), if_neg (by omega), if_pos h30]; unfold pC pB2 pA; rw [y136, pS_n hcf, pM_1, pS_1, pM_1]
                       exact ⟨_, rfl, by rw [hMf]; exact hC3, by rw [eT, hMf]; exact hA3, Or.inr ⟨rfl, by rw [eT]; exact fun e => absurd (show (1 : Int) = 0 from e) (by decide)⟩⟩)
                    | (obtain ⟨_, hcf, hMf⟩ := h160.resolve_left (fun q => by have := q.1; omega); have eT : pT T n i = (1, ((nE T n 5 (i + 1)) + 1)) := by unfold pT; rw [if_neg (by omega), if_neg (by omega), if_pos h30]; unfold pC pB2 pA; rw [y136, y145, pM_n hcf, pS_1, pM_1]
                       exact ⟨_, rfl, by rw [hMf]; exact hC4, by rw [eT, hMf]; exact hA4, Or.inr ⟨rfl, by rw [eT]; exact fun e => absurd (show (1 : Int) = 0 from e) (by decide)⟩⟩)
                    | (obtain ⟨_, hcf, hMf⟩ := h169.resolve_left (fun q => by have := q.1; omega); have eT : pT T n i = (1, (nE T n 19 ((nE T n 5 (i + 1)) + 1))) := by unfold pT; rw [if_neg (by omega), if_neg (by omega), if_pos h30]; unfold pC pB2 pA; rw [y136, y145, y160, pS_n hcf, pM_1]
                       exact ⟨_, rfl, by rw [hMf]; exact hC5, by rw [eT, hMf]; exact hA5, Or.inr ⟨rfl, by rw [eT]; exact fun e => absurd (show (1 : Int) = 0 from e) (by decide)⟩⟩)
                    | (obtain ⟨_, hcf, hMf⟩ := h184.resolve_left (fun q => by have := q.1; omega); have eT : pT T n i = (1, ((nE T n 19 ((nE T n 5 (i + 1)) + 1)) + 1)) := by unfold pT; rw [if_neg (by omega), if_neg (by omega), if_pos h30]; unfold pC pB2 pA; rw [y136, y145, y160, y169, pM_n hcf]
                       exact ⟨_, rfl, by rw [hMf]; exact hC6, by rw [eT, hMf]; exact hA6, Or.inr ⟨rfl, by rw [eT]; exact fun e => absurd (show (1 : Int) = 0 from e) (by decide)⟩⟩)
                · obtain ⟨_, hc169, hM169⟩ := h169.resolve_right (fun q => c172 q.1)
                  have hA6 : zAt M169 T n ((nE T n 19 ((nE T n 5 (i + 1)) + 1)) + 1) := by rw [hM169]; exact hA5.up
                  have hC6 : zCh M d M169 := by rw [hM169]; exact hC5.at'
                  have y169 := pS_y hc169
                  have v180_6 : M169 180 d = pN T n i := by rw [hM169, zm_up_off (by omega)]; exact v180_5
                  have v181_6 : M169 181 d = nV T n 5 (i + 1) := by rw [hM169, zm_up_off (by omega)]; exact v181_5
                  have v182_6 : M169 182 d = nV T n 19 ((nE T n 5 (i + 1)) + 1) := by rw [hM169, zm_up_off (by omega)]; exact v182_5
                  have hr6 : 0 ≤ ((nE T n 19 ((nE T n 5 (i + 1)) + 1)) + 1) ∧ ((nE T n 19 ((nE T n 5 (i + 1)) + 1)) + 1) ≤ n := by have := pN_in (T := T) (n := n) (i := (nE T n 19 ((nE T n 5 (i + 1)) + 1))) (by omega); omega
                  refine z_aload_n dX2_readThing_175 rfl ?_
                  refine z_aload_n dX2_readThing_176 rfl ?_
                  refine z_getR (b := 183) dX2_readThing_177 fX2_35 (by decide) (zsh178) rfl rfl ?_
                  refine z_iload_n dX2_readThing_180 rfl ?_
                  refine z_iconst dX2_readThing_181 ?_
                  refine z_bipush dX2_readThing_182 (by decide) ?_
                  refine z_callV mX2_readNumber (vX2_readNumber hA6 hT hr6 (by decide) hd (by decide) (by decide)) rfl dX2_readThing_184 kX2_50 (by decide) rfl (by show _ ≤ 8; simp) (by decide) (zsh178) (by decide) rfl (fun v184 M184 q184 => ?_)
                  obtain ⟨b184, rfl, h184⟩ := q184
                  try simp only [zpush]
                  refine z_if_eq (tgt := 194) dX2_readThing_187 (by decide) (by omega) (fun c187 => ?_) (fun c187 => ?_)
                  · refine z_iconst dX2_readThing_194 ?_
                    refine z_zret dX2_readThing_195 rfl (by omega) ?_
                    first
                      | (have eT : pT T n i = (0, (nE T n 9 ((nE T n 19 ((nE T n 5 (i + 1)) + 1)) + 1))) := (by unfold pT; rw [if_neg (by omega), if_neg (by omega), if_pos h30]; unfold pC pB2 pA; rw [y136, y145, y160, y169, y184]); exact ⟨_, rfl, hC7, by rw [eT]; exact hA7, Or.inl ⟨rfl, by rw [eT], by unfold zTh; exact ⟨v180_7, fun q => absurd q (by omega), fun q => absurd q (by omega), fun _ => ⟨by unfold p1; rw [if_neg (by omega)]; exact v181_7, by unfold p2; rw [if_neg (by omega)]; unfold pB2 pA; rw [y136, y145]; exact v182_7, by unfold p3 pC pB2 pA; rw [y136, y145, y160, y169]; exact v183_7⟩⟩⟩⟩)
                      | (obtain ⟨_, hcf, hMf⟩ := h136.resolve_left (fun q => by have := q.1; omega); have eT : pT T n i = (1, (i + 1)) := by unfold pT; rw [if_neg (by omega), if_neg (by omega), if_pos h30]; unfold pC pB2 pA; rw [pM_n hcf, pS_1, pM_1, pS_1, pM_1]
                         exact ⟨_, rfl, by rw [hMf]; exact hC2, by rw [eT, hMf]; exact hA2, Or.inr ⟨rfl, by rw [eT]; exact fun e => absurd (show (1 : Int) = 0 from e) (by decide)⟩⟩)
                      | (obtain ⟨_, hcf, hMf⟩ := h145.resolve_left (fun q => by have := q.1; omega); have eT : pT T n i = (1, (nE T n 5 (i + 1))) := by unfold pT; rw [if_neg (by omega), if_neg (by omega), if_pos h30]; unfold pC pB2 pA; rw [y136, pS_n hcf, pM_1, pS_1, pM_1]
                         exact ⟨_, rfl, by rw [hMf]; exact hC3, by rw [eT, hMf]; exact hA3, Or.inr ⟨rfl, by rw [eT]; exact fun e => absurd (show (1 : Int) = 0 from e) (by decide)⟩⟩)
                      | (obtain ⟨_, hcf, hMf⟩ := h160.resolve_left (fun q => by have := q.1; omega); have eT : pT T n i = (1, ((nE T n 5 (i + 1)) + 1)) := by unfold pT; rw [if_neg (by omega), if_neg (by omega), if_pos h30]; unfold pC pB2 pA; rw [y136, y145, pM_n hcf, pS_1, pM_1]
                         exact ⟨_, rfl, by rw [hMf]; exact hC4, by rw [eT, hMf]; exact hA4, Or.inr ⟨rfl, by rw [eT]; exact fun e => absurd (show (1 : Int) = 0 from e) (by decide)⟩⟩)
                      | (obtain ⟨_, hcf, hMf⟩ := h169.resolve_left (fun q => by have := q.1; omega); have eT : pT T n i = (1, (nE T n 19 ((nE T n 5 (i + 1)) + 1))) := by unfold pT; rw [if_neg (by omega), if_neg (by omega), if_pos h30]; unfold pC pB2 pA; rw [y136, y145, y160, pS_n hcf, pM_1]
                         exact ⟨_, rfl, by rw [hMf]; exact hC5, by rw [eT, hMf]; exact hA5, Or.inr ⟨rfl, by rw [eT]; exact fun e => absurd (show (1 : Int) = 0 from e) (by decide)⟩⟩)
                      | (obtain ⟨_, hcf, hMf⟩ := h184.resolve_left (fun q => by have := q.1; omega); have eT : pT T n i = (1, ((nE T n 19 ((nE T n 5 (i + 1)) + 1)) + 1)) := by unfold pT; rw [if_neg (by omega), if_neg (by omega), if_pos h30]; unfold pC pB2 pA; rw [y136, y145, y160, y169, pM_n hcf]
                         exact ⟨_, rfl, by rw [hMf]; exact hC6, by rw [eT, hMf]; exact hA6, Or.inr ⟨rfl, by rw [eT]; exact fun e => absurd (show (1 : Int) = 0 from e) (by decide)⟩⟩)
                  · obtain ⟨_, hc184, hA7, hv184, hO184⟩ := h184.resolve_right (fun q => c187 q.1)
                    have hC7 := hC6.num hO184 (by decide)
                    have y184 := pM_y hc184
                    have v180_7 : M184 180 d = pN T n i := (hO184 180 d (by omega) (by omega)).trans v180_6
                    have v181_7 : M184 181 d = nV T n 5 (i + 1) := (hO184 181 d (by omega) (by omega)).trans v181_6
                    have v182_7 : M184 182 d = nV T n 19 ((nE T n 5 (i + 1)) + 1) := (hO184 182 d (by omega) (by omega)).trans v182_6
                    have v183_7 : M184 183 d = nV T n 9 ((nE T n 19 ((nE T n 5 (i + 1)) + 1)) + 1) := hv184
                    have hr7 : 0 ≤ (nE T n 9 ((nE T n 19 ((nE T n 5 (i + 1)) + 1)) + 1)) ∧ (nE T n 9 ((nE T n 19 ((nE T n 5 (i + 1)) + 1)) + 1)) ≤ n := ⟨by have := nE_r T n 9 ((nE T n 19 ((nE T n 5 (i + 1)) + 1)) + 1); omega, nE_n (by omega)⟩
                    refine z_iconst dX2_readThing_190 ?_
                    refine z_goto (tgt := 195) dX2_readThing_191 (by decide) ?_
                    refine z_zret dX2_readThing_195 rfl (by omega) ?_
                    first
                      | (have eT : pT T n i = (0, (nE T n 9 ((nE T n 19 ((nE T n 5 (i + 1)) + 1)) + 1))) := (by unfold pT; rw [if_neg (by omega), if_neg (by omega), if_pos h30]; unfold pC pB2 pA; rw [y136, y145, y160, y169, y184]); exact ⟨_, rfl, hC7, by rw [eT]; exact hA7, Or.inl ⟨rfl, by rw [eT], by unfold zTh; exact ⟨v180_7, fun q => absurd q (by omega), fun q => absurd q (by omega), fun _ => ⟨by unfold p1; rw [if_neg (by omega)]; exact v181_7, by unfold p2; rw [if_neg (by omega)]; unfold pB2 pA; rw [y136, y145]; exact v182_7, by unfold p3 pC pB2 pA; rw [y136, y145, y160, y169]; exact v183_7⟩⟩⟩⟩)
                      | (obtain ⟨_, hcf, hMf⟩ := h136.resolve_left (fun q => by have := q.1; omega); have eT : pT T n i = (1, (i + 1)) := by unfold pT; rw [if_neg (by omega), if_neg (by omega), if_pos h30]; unfold pC pB2 pA; rw [pM_n hcf, pS_1, pM_1, pS_1, pM_1]
                         exact ⟨_, rfl, by rw [hMf]; exact hC2, by rw [eT, hMf]; exact hA2, Or.inr ⟨rfl, by rw [eT]; exact fun e => absurd (show (1 : Int) = 0 from e) (by decide)⟩⟩)
                      | (obtain ⟨_, hcf, hMf⟩ := h145.resolve_left (fun q => by have := q.1; omega); have eT : pT T n i = (1, (nE T n 5 (i + 1))) := by unfold pT; rw [if_neg (by omega), if_neg (by omega), if_pos h30]; unfold pC pB2 pA; rw [y136, pS_n hcf, pM_1, pS_1, pM_1]
                         exact ⟨_, rfl, by rw [hMf]; exact hC3, by rw [eT, hMf]; exact hA3, Or.inr ⟨rfl, by rw [eT]; exact fun e => absurd (show (1 : Int) = 0 from e) (by decide)⟩⟩)
                      | (obtain ⟨_, hcf, hMf⟩ := h160.resolve_left (fun q => by have := q.1; omega); have eT : pT T n i = (1, ((nE T n 5 (i + 1)) + 1)) := by unfold pT; rw [if_neg (by omega), if_neg (by omega), if_pos h30]; unfold pC pB2 pA; rw [y136, y145, pM_n hcf, pS_1, pM_1]
                         exact ⟨_, rfl, by rw [hMf]; exact hC4, by rw [eT, hMf]; exact hA4, Or.inr ⟨rfl, by rw [eT]; exact fun e => absurd (show (1 : Int) = 0 from e) (by decide)⟩⟩)
                      | (obtain ⟨_, hcf, hMf⟩ := h169.resolve_left (fun q => by have := q.1; omega); have eT : pT T n i = (1, (nE T n 19 ((nE T n 5 (i + 1)) + 1))) := by unfold pT; rw [if_neg (by omega), if_neg (by omega), if_pos h30]; unfold pC pB2 pA; rw [y136, y145, y160, pS_n hcf, pM_1]
                         exact ⟨_, rfl, by rw [hMf]; exact hC5, by rw [eT, hMf]; exact hA5, Or.inr ⟨rfl, by rw [eT]; exact fun e => absurd (show (1 : Int) = 0 from e) (by decide)⟩⟩)
                      | (obtain ⟨_, hcf, hMf⟩ := h184.resolve_left (fun q => by have := q.1; omega); have eT : pT T n i = (1, ((nE T n 19 ((nE T n 5 (i + 1)) + 1)) + 1)) := by unfold pT; rw [if_neg (by omega), if_neg (by omega), if_pos h30]; unfold pC pB2 pA; rw [y136, y145, y160, y169, pM_n hcf]
                         exact ⟨_, rfl, by rw [hMf]; exact hC6, by rw [eT, hMf]; exact hA6, Or.inr ⟨rfl, by rw [eT]; exact fun e => absurd (show (1 : Int) = 0 from e) (by decide)⟩⟩)
        · refine z_look (off := 34) (tgt := 64) dX2_readThing_30 (by decide) (by omega) (by rw [h30]; rfl) (by decide) ?_
          refine z_aload_n dX2_readThing_64 rfl ?_
          refine z_dup dX2_readThing_65 ?_
          refine z_getI (kI := 2) dX2_readThing_66 fX2_19 (by decide) (zsh178) rfl rfl ?_
          refine z_iconst dX2_readThing_69 ?_
          refine z_iadd dX2_readThing_70 ?_
          refine z_nput (kI := 2) dX2_readThing_71 fX2_19 rfl (Or.inl rfl) (by decide) (zsh178) rfl rfl (fun N71 hN71 => ?_)
          rw [hA1.2.2] at hN71
          have hA2 : zAt N71 T n (i + 1) := by rw [hN71]; exact hA1.up
          have hC2 : zCh M d N71 := by rw [hN71]; exact hC1.at'
          have v180_2 : N71 180 d = pN T n i := by rw [hN71, zm_up_off (by omega)]; exact hs1
          have hin := pN_in (T := T) (n := n) (i := i) (by omega)
          have hr2 : 0 ≤ i + 1 ∧ i + 1 ≤ n := by omega
          refine z_aload_n dX2_readThing_74 rfl ?_
          refine z_aload_n dX2_readThing_75 rfl ?_
          refine z_getR (b := 181) dX2_readThing_76 fX2_29 (by decide) (zsh178) rfl rfl ?_
          refine z_iload_n dX2_readThing_79 rfl ?_
          refine z_iconst dX2_readThing_80 ?_
          refine z_iconst dX2_readThing_81 ?_
          refine z_callV mX2_readNumber (vX2_readNumber hA2 hT hr2 (by decide) hd (by decide) (by decide)) rfl dX2_readThing_82 kX2_50 (by decide) rfl (by show _ ≤ 8; simp) (by decide) (zsh178) (by decide) rfl (fun v82 M82 q82 => ?_)
          obtain ⟨b82, rfl, h82⟩ := q82
          try simp only [zpush]
          refine z_if_eq (tgt := 116) dX2_readThing_85 (by decide) (by omega) (fun c85 => ?_) (fun c85 => ?_)
          · refine z_iconst dX2_readThing_116 ?_
            refine z_zret dX2_readThing_117 rfl (by omega) ?_
            first
              | (have eT : pT T n i = (0, (nE T n 99 ((nE T n 5 (i + 1)) + 1))) := (by unfold pT; rw [if_neg (by omega), if_pos h30]; unfold pB1 pA; rw [y82, y91, y106]); exact ⟨_, rfl, hC5, by rw [eT]; exact hA5, Or.inl ⟨rfl, by rw [eT], by unfold zTh; exact ⟨v180_5, fun q => absurd q (by omega), fun _ => ⟨by unfold p1; rw [if_neg (by omega)]; exact v181_5, by unfold p2; rw [if_pos h30]; unfold pB1 pA; rw [y82, y91]; exact v183_5⟩, fun q => absurd q (by omega)⟩⟩⟩)
              | (obtain ⟨_, hcf, hMf⟩ := h82.resolve_left (fun q => by have := q.1; omega); have eT : pT T n i = (1, (i + 1)) := by unfold pT; rw [if_neg (by omega), if_pos h30]; unfold pB1 pA; rw [pM_n hcf, pS_1, pM_1]
                 exact ⟨_, rfl, by rw [hMf]; exact hC2, by rw [eT, hMf]; exact hA2, Or.inr ⟨rfl, by rw [eT]; exact fun e => absurd (show (1 : Int) = 0 from e) (by decide)⟩⟩)
              | (obtain ⟨_, hcf, hMf⟩ := h91.resolve_left (fun q => by have := q.1; omega); have eT : pT T n i = (1, (nE T n 5 (i + 1))) := by unfold pT; rw [if_neg (by omega), if_pos h30]; unfold pB1 pA; rw [y82, pS_n hcf, pM_1]
                 exact ⟨_, rfl, by rw [hMf]; exact hC3, by rw [eT, hMf]; exact hA3, Or.inr ⟨rfl, by rw [eT]; exact fun e => absurd (show (1 : Int) = 0 from e) (by decide)⟩⟩)
              | (obtain ⟨_, hcf, hMf⟩ := h106.resolve_left (fun q => by have := q.1; omega); have eT : pT T n i = (1, ((nE T n 5 (i + 1)) + 1)) := by unfold pT; rw [if_neg (by omega), if_pos h30]; unfold pB1 pA; rw [y82, y91, pM_n hcf]
                 exact ⟨_, rfl, by rw [hMf]; exact hC4, by rw [eT, hMf]; exact hA4, Or.inr ⟨rfl, by rw [eT]; exact fun e => absurd (show (1 : Int) = 0 from e) (by decide)⟩⟩)
          · obtain ⟨_, hc82, hA3, hv82, hO82⟩ := h82.resolve_right (fun q => c85 q.1)
            have hC3 := hC2.num hO82 (by decide)
            have y82 := pM_y hc82
            have v180_3 : M82 180 d = pN T n i := (hO82 180 d (by omega) (by omega)).trans v180_2
            have v181_3 : M82 181 d = nV T n 5 (i + 1) := hv82
            have hr3 : 0 ≤ (nE T n 5 (i + 1)) ∧ (nE T n 5 (i + 1)) ≤ n := ⟨by have := nE_r T n 5 (i + 1); omega, nE_n (by omega)⟩
            refine z_aload_n dX2_readThing_88 rfl ?_
            refine z_bipush dX2_readThing_89 (by decide) ?_
            refine z_callV mX2_readSign (vX2_readSign hA3 hT hr3 (by decide)) rfl dX2_readThing_91 kX2_42 (by decide) rfl (by show _ ≤ 8; simp) (by decide) (zsh178) (by decide) rfl (fun v91 M91 q91 => ?_)
            obtain ⟨b91, rfl, h91⟩ := q91
            try simp only [zpush]
            refine z_if_eq (tgt := 116) dX2_readThing_94 (by decide) (by omega) (fun c94 => ?_) (fun c94 => ?_)
            · refine z_iconst dX2_readThing_116 ?_
              refine z_zret dX2_readThing_117 rfl (by omega) ?_
              first
                | (have eT : pT T n i = (0, (nE T n 99 ((nE T n 5 (i + 1)) + 1))) := (by unfold pT; rw [if_neg (by omega), if_pos h30]; unfold pB1 pA; rw [y82, y91, y106]); exact ⟨_, rfl, hC5, by rw [eT]; exact hA5, Or.inl ⟨rfl, by rw [eT], by unfold zTh; exact ⟨v180_5, fun q => absurd q (by omega), fun _ => ⟨by unfold p1; rw [if_neg (by omega)]; exact v181_5, by unfold p2; rw [if_pos h30]; unfold pB1 pA; rw [y82, y91]; exact v183_5⟩, fun q => absurd q (by omega)⟩⟩⟩)
                | (obtain ⟨_, hcf, hMf⟩ := h82.resolve_left (fun q => by have := q.1; omega); have eT : pT T n i = (1, (i + 1)) := by unfold pT; rw [if_neg (by omega), if_pos h30]; unfold pB1 pA; rw [pM_n hcf, pS_1, pM_1]
                   exact ⟨_, rfl, by rw [hMf]; exact hC2, by rw [eT, hMf]; exact hA2, Or.inr ⟨rfl, by rw [eT]; exact fun e => absurd (show (1 : Int) = 0 from e) (by decide)⟩⟩)
                | (obtain ⟨_, hcf, hMf⟩ := h91.resolve_left (fun q => by have := q.1; omega); have eT : pT T n i = (1, (nE T n 5 (i + 1))) := by unfold pT; rw [if_neg (by omega), if_pos h30]; unfold pB1 pA; rw [y82, pS_n hcf, pM_1]
                   exact ⟨_, rfl, by rw [hMf]; exact hC3, by rw [eT, hMf]; exact hA3, Or.inr ⟨rfl, by rw [eT]; exact fun e => absurd (show (1 : Int) = 0 from e) (by decide)⟩⟩)
                | (obtain ⟨_, hcf, hMf⟩ := h106.resolve_left (fun q => by have := q.1; omega); have eT : pT T n i = (1, ((nE T n 5 (i + 1)) + 1)) := by unfold pT; rw [if_neg (by omega), if_pos h30]; unfold pB1 pA; rw [y82, y91, pM_n hcf]
                   exact ⟨_, rfl, by rw [hMf]; exact hC4, by rw [eT, hMf]; exact hA4, Or.inr ⟨rfl, by rw [eT]; exact fun e => absurd (show (1 : Int) = 0 from e) (by decide)⟩⟩)
            · obtain ⟨_, hc91, hM91⟩ := h91.resolve_right (fun q => c94 q.1)
              have hA4 : zAt M91 T n ((nE T n 5 (i + 1)) + 1) := by rw [hM91]; exact hA3.up
              have hC4 : zCh M d M91 := by rw [hM91]; exact hC3.at'
              have y91 := pS_y hc91
              have v180_4 : M91 180 d = pN T n i := by rw [hM91, zm_up_off (by omega)]; exact v180_3
              have v181_4 : M91 181 d = nV T n 5 (i + 1) := by rw [hM91, zm_up_off (by omega)]; exact v181_3
              have hr4 : 0 ≤ ((nE T n 5 (i + 1)) + 1) ∧ ((nE T n 5 (i + 1)) + 1) ≤ n := by have := pN_in (T := T) (n := n) (i := (nE T n 5 (i + 1))) (by omega); omega
              refine z_aload_n dX2_readThing_97 rfl ?_
              refine z_aload_n dX2_readThing_98 rfl ?_
              refine z_getR (b := 183) dX2_readThing_99 fX2_35 (by decide) (zsh178) rfl rfl ?_
              refine z_iload_n dX2_readThing_102 rfl ?_
              refine z_iconst dX2_readThing_103 ?_
              refine z_bipush dX2_readThing_104 (by decide) ?_
              refine z_callV mX2_readNumber (vX2_readNumber hA4 hT hr4 (by decide) hd (by decide) (by decide)) rfl dX2_readThing_106 kX2_50 (by decide) rfl (by show _ ≤ 8; simp) (by decide) (zsh178) (by decide) rfl (fun v106 M106 q106 => ?_)
              obtain ⟨b106, rfl, h106⟩ := q106
              try simp only [zpush]
              refine z_if_eq (tgt := 116) dX2_readThing_109 (by decide) (by omega) (fun c109 => ?_) (fun c109 => ?_)
              · refine z_iconst dX2_readThing_116 ?_
                refine z_zret dX2_readThing_117 rfl (by omega) ?_
                first
                  | (have eT : pT T n i = (0, (nE T n 99 ((nE T n 5 (i + 1)) + 1))) := (by unfold pT; rw [if_neg (by omega), if_pos h30]; unfold pB1 pA; rw [y82, y91, y106]); exact ⟨_, rfl, hC5, by rw [eT]; exact hA5, Or.inl ⟨rfl, by rw [eT], by unfold zTh; exact ⟨v180_5, fun q => absurd q (by omega), fun _ => ⟨by unfold p1; rw [if_neg (by omega)]; exact v181_5, by unfold p2; rw [if_pos h30]; unfold pB1 pA; rw [y82, y91]; exact v183_5⟩, fun q => absurd q (by omega)⟩⟩⟩)
                  | (obtain ⟨_, hcf, hMf⟩ := h82.resolve_left (fun q => by have := q.1; omega); have eT : pT T n i = (1, (i + 1)) := by unfold pT; rw [if_neg (by omega), if_pos h30]; unfold pB1 pA; rw [pM_n hcf, pS_1, pM_1]
                     exact ⟨_, rfl, by rw [hMf]; exact hC2, by rw [eT, hMf]; exact hA2, Or.inr ⟨rfl, by rw [eT]; exact fun e => absurd (show (1 : Int) = 0 from e) (by decide)⟩⟩)
                  | (obtain ⟨_, hcf, hMf⟩ := h91.resolve_left (fun q => by have := q.1; omega); have eT : pT T n i = (1, (nE T n 5 (i + 1))) := by unfold pT; rw [if_neg (by omega), if_pos h30]; unfold pB1 pA; rw [y82, pS_n hcf, pM_1]
                     exact ⟨_, rfl, by rw [hMf]; exact hC3, by rw [eT, hMf]; exact hA3, Or.inr ⟨rfl, by rw [eT]; exact fun e => absurd (show (1 : Int) = 0 from e) (by decide)⟩⟩)
                  | (obtain ⟨_, hcf, hMf⟩ := h106.resolve_left (fun q => by have := q.1; omega); have eT : pT T n i = (1, ((nE T n 5 (i + 1)) + 1)) := by unfold pT; rw [if_neg (by omega), if_pos h30]; unfold pB1 pA; rw [y82, y91, pM_n hcf]
                     exact ⟨_, rfl, by rw [hMf]; exact hC4, by rw [eT, hMf]; exact hA4, Or.inr ⟨rfl, by rw [eT]; exact fun e => absurd (show (1 : Int) = 0 from e) (by decide)⟩⟩)
              · obtain ⟨_, hc106, hA5, hv106, hO106⟩ := h106.resolve_right (fun q => c109 q.1)
                have hC5 := hC4.num hO106 (by decide)
                have y106 := pM_y hc106
                have v180_5 : M106 180 d = pN T n i := (hO106 180 d (by omega) (by omega)).trans v180_4
                have v181_5 : M106 181 d = nV T n 5 (i + 1) := (hO106 181 d (by omega) (by omega)).trans v181_4
                have v183_5 : M106 183 d = nV T n 99 ((nE T n 5 (i + 1)) + 1) := hv106
                have hr5 : 0 ≤ (nE T n 99 ((nE T n 5 (i + 1)) + 1)) ∧ (nE T n 99 ((nE T n 5 (i + 1)) + 1)) ≤ n := ⟨by have := nE_r T n 99 ((nE T n 5 (i + 1)) + 1); omega, nE_n (by omega)⟩
                refine z_iconst dX2_readThing_112 ?_
                refine z_goto (tgt := 117) dX2_readThing_113 (by decide) ?_
                refine z_zret dX2_readThing_117 rfl (by omega) ?_
                first
                  | (have eT : pT T n i = (0, (nE T n 99 ((nE T n 5 (i + 1)) + 1))) := (by unfold pT; rw [if_neg (by omega), if_pos h30]; unfold pB1 pA; rw [y82, y91, y106]); exact ⟨_, rfl, hC5, by rw [eT]; exact hA5, Or.inl ⟨rfl, by rw [eT], by unfold zTh; exact ⟨v180_5, fun q => absurd q (by omega), fun _ => ⟨by unfold p1; rw [if_neg (by omega)]; exact v181_5, by unfold p2; rw [if_pos h30]; unfold pB1 pA; rw [y82, y91]; exact v183_5⟩, fun q => absurd q (by omega)⟩⟩⟩)
                  | (obtain ⟨_, hcf, hMf⟩ := h82.resolve_left (fun q => by have := q.1; omega); have eT : pT T n i = (1, (i + 1)) := by unfold pT; rw [if_neg (by omega), if_pos h30]; unfold pB1 pA; rw [pM_n hcf, pS_1, pM_1]
                     exact ⟨_, rfl, by rw [hMf]; exact hC2, by rw [eT, hMf]; exact hA2, Or.inr ⟨rfl, by rw [eT]; exact fun e => absurd (show (1 : Int) = 0 from e) (by decide)⟩⟩)
                  | (obtain ⟨_, hcf, hMf⟩ := h91.resolve_left (fun q => by have := q.1; omega); have eT : pT T n i = (1, (nE T n 5 (i + 1))) := by unfold pT; rw [if_neg (by omega), if_pos h30]; unfold pB1 pA; rw [y82, pS_n hcf, pM_1]
                     exact ⟨_, rfl, by rw [hMf]; exact hC3, by rw [eT, hMf]; exact hA3, Or.inr ⟨rfl, by rw [eT]; exact fun e => absurd (show (1 : Int) = 0 from e) (by decide)⟩⟩)
                  | (obtain ⟨_, hcf, hMf⟩ := h106.resolve_left (fun q => by have := q.1; omega); have eT : pT T n i = (1, ((nE T n 5 (i + 1)) + 1)) := by unfold pT; rw [if_neg (by omega), if_pos h30]; unfold pB1 pA; rw [y82, y91, pM_n hcf]
                     exact ⟨_, rfl, by rw [hMf]; exact hC4, by rw [eT, hMf]; exact hA4, Or.inr ⟨rfl, by rw [eT]; exact fun e => absurd (show (1 : Int) = 0 from e) (by decide)⟩⟩)
        · refine z_look (off := 189) (tgt := 219) dX2_readThing_30 (by decide) (by omega) (by show (if _ = _ then _ else if _ = _ then _ else if _ = _ then _ else _) = _; rw [if_neg (by omega), if_neg (by omega), if_neg (by omega)]; rfl) (by decide) ?_
          refine z_iconst dX2_readThing_219 ?_
          refine z_zret dX2_readThing_220 rfl (by omega) ?_
          have eT : pT T n i = (1, i) := by unfold pT; rw [if_neg (by omega), if_neg (by omega), if_neg (by omega)]
          exact ⟨_, rfl, hC1, by rw [eT]; exact hA1, Or.inr ⟨rfl, by rw [eT]; exact fun e => absurd (show (1 : Int) = 0 from e) (by decide)⟩⟩
      · refine z_iconst dX2_readThing_20 ?_
        refine z_zret dX2_readThing_21 rfl (by omega) ?_
        first
          | (exfalso; omega)
          | (have eT : pT T n i = (1, i) := by unfold pT; rw [if_neg (by omega), if_neg (by omega), if_neg (by omega)]
             exact ⟨_, rfl, zCh.rf M d, by rw [eT]; exact hA, Or.inr ⟨rfl, by rw [eT]; exact fun e => absurd (show (1 : Int) = 0 from e) (by decide)⟩⟩)

theorem vX2_read {G : zG} {M : zM} {T : zS} {l : Int} (h179 : M 179 = T) (h1 : M 178 1 = l) (hT : zTc T l) : zCall G yX2_read YX2_read [.inr (some 178)] M (fun v M' => zCr M M' ∧ ((pR T l 0 0).1.1 = 0 → v = some (.inl (-1)) ∧ M' 178 3 = (pR T l 0 0).2 ∧ (pR T l 0 0).2 ≤ 21 ∧ ∀ e : Int, 0 ≤ e → e < (pR T l 0 0).2 → zTh T l (zq T l e.toNat) M' e) ∧ (¬ (pR T l 0 0).1.1 = 0 → v = some (.inl (pR T l 0 0).1.2))) := by
  refine zEnter (by decide +kernel) rfl (Nat.le_of_ble_eq_true rfl) ?_
  have hlt := hT.1
  refine z_aload_n dX2_read_0 rfl ?_
  refine z_iconst dX2_read_1 ?_
  refine z_nput (kI := 2) dX2_read_2 fX2_19 rfl (Or.inl rfl) (by decide) (zsh178) rfl rfl (fun N2 hN2 => ?_)
  refine z_aload_n dX2_read_5 rfl ?_
  refine z_iconst dX2_read_6 ?_
  refine z_nput (kI := 3) dX2_read_7 fX2_22 rfl (Or.inl rfl) (by decide) (zsh178) rfl rfl (fun N7 hN7 => ?_)
  refine z_iconst dX2_read_10 ?_
  refine z_istore_n dX2_read_11 (by decide) ?_
  have hA0 : zAt N7 T l 0 := ⟨by rw [hN7, zm_up_off (by omega), hN2, zm_up_off (by omega)]; exact h179, by rw [hN7, zm_up_ne (by omega), hN2, zm_up_ne (by omega)]; exact h1, by rw [hN7, zm_up_ne (by omega), hN2, zm_up_at]⟩
  have hC0 : zCr M N7 := ⟨fun a ha => by rw [hN7, zm_up_off (by omega), hN2, zm_up_off (by omega)], by rw [hN7, zm_up_ne (by omega), hN2, zm_up_ne (by omega)]⟩
  have L : ∀ (n : Nat) (d : Int) (N : zM), (0 ≤ d ∧ d ≤ 20) → (d + n = 22) → (zAt N T l (zq T l d.toNat)) → (3 * d ≤ zq T l d.toNat ∧ zq T l d.toNat ≤ l) → (N 178 3 = d) → (zCr M N) → (∀ e : Int, 0 ≤ e → e < d → zTh T l (zq T l e.toNat) N e) → (pR T l (zq T l d.toNat) d = pR T l 0 0) → zW G YX2_read (fun v M' => zCr M M' ∧ ((pR T l 0 0).1.1 = 0 → v = some (.inl (-1)) ∧ M' 178 3 = (pR T l 0 0).2 ∧ (pR T l 0 0).2 ≤ 21 ∧ ∀ e : Int, 0 ≤ e → e < (pR T l 0 0).2 → zTh T l (zq T l e.toNat) M' e) ∧ (¬ (pR T l 0 0).1.1 = 0 → v = some (.inl (pR T l 0 0).1.2))) 12 [(1, .inl d), (0, .inr (some 178))] [] N := by
    intro n
    induction n with
    | zero => intro d N hd hdn hA hq h3 hC hth he; exfalso; omega
    | succ n ih =>
      intro d N hd hdn hA hq h3 hC hth he
      refine z_iload_n dX2_read_12 rfl ?_
      refine z_bipush dX2_read_13 (by decide) ?_
      refine z_icmp_ge (tgt := 74) dX2_read_15 (by decide) (by omega) (by omega) (fun c15 => ?_) (fun c15 => ?_)
      · exfalso; omega
      · have hl := hT.1
        refine z_aload_n dX2_read_18 rfl ?_
        refine z_iload_n dX2_read_19 rfl ?_
        refine z_callV mX2_readThing (vX2_readThing hA hT (by omega) (by omega)) rfl dX2_read_20 kX2_38 (by decide) rfl (by show _ ≤ 8; simp) (by decide) (zsh178) (by decide) rfl (fun v20 M20 q20 => ?_)
        obtain ⟨b20, rfl, hC20, hA20, h20⟩ := q20
        try simp only [zpush]
        have hCm : zCr M M20 := ⟨fun a ha => by rw [← hC.1 a ha]; funext j; exact hC20 a j (by omega) (by omega), (hC20 178 1 (by omega) (by omega)).trans hC.2⟩
        rw [pR_step (by omega)] at he
        refine z_if_ne (tgt := 31) dX2_read_23 (by decide) (by omega) (fun c23 => ?_) (fun c23 => ?_)
        · obtain ⟨_, hp20, ht20⟩ := h20.resolve_right (fun q => c23 q.1)
          have hpr := pT_r (T := T) hq.2
          refine z_aload_n dX2_read_31 rfl ?_
          refine z_dup dX2_read_32 ?_
          refine z_getI (kI := 3) dX2_read_33 fX2_22 (by decide) (zsh178) rfl rfl ?_
          refine z_iconst dX2_read_36 ?_
          refine z_iadd dX2_read_37 ?_
          refine z_nput (kI := 3) dX2_read_38 fX2_22 rfl (Or.inl rfl) (by decide) (zsh178) rfl rfl (fun N38 hN38 => ?_)
          have g3 : N38 178 3 = d + 1 := by rw [hN38, zm_up_at, hC20 178 3 (by omega) (by omega), h3]
          have hA38 : zAt N38 T l (pT T l (zq T l d.toNat)).2 := ⟨by rw [hN38, zm_up_off (by omega)]; exact hA20.1, by rw [hN38, zm_up_ne (by omega)]; exact hA20.2.1, by rw [hN38, zm_up_ne (by omega)]; exact hA20.2.2⟩
          have hC38 : zCr M N38 := ⟨fun a ha => by rw [hN38, zm_up_off (by omega)]; exact hCm.1 a ha, by rw [hN38, zm_up_ne (by omega)]; exact hCm.2⟩
          have g1 := hA38.2.1
          have g2 := hA38.2.2
          have hth38 : ∀ e : Int, 0 ≤ e → e < d + 1 → zTh T l (zq T l e.toNat) N38 e := by
            intro e q1 q2
            by_cases hed : e = d
            · subst hed
              exact ht20.mv (fun a q3 q4 => by rw [hN38, zm_up_off (by omega)])
            · exact (hth e q1 (by omega)).mv (fun a q3 q4 => by rw [hN38, zm_up_off (by omega)]; exact hC20 a e (by omega) (by omega))
          refine z_aload_n dX2_read_41 rfl ?_
          refine z_getI (kI := 2) dX2_read_42 fX2_19 (by decide) (zsh178) rfl rfl ?_
          refine z_aload_n dX2_read_45 rfl ?_
          refine z_getI (kI := 1) dX2_read_46 fX2_15 (by decide) (zsh178) rfl rfl ?_
          refine z_icmp_ne (tgt := 54) dX2_read_49 (by decide) (by omega) (by omega) (fun c49 => ?_) (fun c49 => ?_)
          · refine z_aload_n dX2_read_54 rfl ?_
            refine z_bipush dX2_read_55 (by decide) ?_
            refine z_callV mX2_readSign (vX2_readSign hA38 hT (by omega) (by decide)) rfl dX2_read_57 kX2_42 (by decide) rfl (by show _ ≤ 8; simp) (by decide) (zsh178) (by decide) rfl (fun v57 M57 q57 => ?_)
            obtain ⟨b57, rfl, h57⟩ := q57
            try simp only [zpush]
            refine z_if_ne (tgt := 68) dX2_read_60 (by decide) (by omega) (fun c60 => ?_) (fun c60 => ?_)
            · have hcx := (h57.resolve_right (fun q => c60 q.1)).2.1
              have pS_e : pS T l 59 (pT T l (zq T l d.toNat)) = (0, (pT T l (zq T l d.toNat)).2 + 1) := by unfold pS; exact if_pos ⟨hp20, hcx⟩
              refine z_iinc dX2_read_68 rfl (by decide) ?_
              refine z_goto (tgt := 12) dX2_read_71 (by decide) ?_
              obtain ⟨_, hc57, hM57⟩ := h57.resolve_right (fun q => c60 q.1)
              rw [if_pos ⟨hp20, by omega⟩, pS_e, if_pos rfl] at he
              have hz1 : (d + 1).toNat = d.toNat + 1 := by omega
              have hz2 : zq T l (d + 1).toNat = (pT T l (zq T l d.toNat)).2 + 1 := by rw [hz1]; rfl
              refine zsub' (ih (d + 1) _ (by omega) (by omega) (by rw [hz2, hM57]; exact hA38.up) (by omega) (by rw [hM57, zm_up_ne (by omega), g3]) ?_ (fun e q1 q2 => ?_) (by rw [hz2]; exact he)) ⟨rfl, rfl, trivial⟩
              · exact ⟨fun a ha => by rw [hM57, zm_up_off (by omega)]; exact hC38.1 a ha, by rw [hM57, zm_up_ne (by omega)]; exact hC38.2⟩
              · exact (hth38 e q1 q2).mv (fun a q3 q4 => by rw [hM57, zm_up_off (by omega)])
            · obtain ⟨_, hc57, hM57⟩ := h57.resolve_left (fun q => by have := q.1; omega)
              refine z_aload_n dX2_read_63 rfl ?_
              refine z_getI (kI := 2) dX2_read_64 fX2_19 (by decide) (zsh178) rfl rfl ?_
              refine z_iret dX2_read_67 rfl ?_
              rw [if_pos ⟨hp20, by omega⟩] at he
              have hS : pS T l 59 (pT T l (zq T l d.toNat)) = (1, (pT T l (zq T l d.toNat)).2) := by unfold pS; exact if_neg (fun q => hc57 q.2)
              rw [hS, if_neg (fun e => absurd (show (1 : Int) = 0 from e) (by decide))] at he
              refine ⟨by rw [hM57]; exact hC38, fun q => ?_, fun q => ?_⟩
              · rw [← he] at q
                exact absurd (show (1 : Int) = 0 from q) (by decide)
              · rw [← he, hM57, g2]
          · refine z_iconst dX2_read_52 ?_
            refine z_iret dX2_read_53 rfl ?_
            rw [if_neg (fun q => absurd q.2 (by omega))] at he
            refine ⟨hC38, fun q => ?_, fun q => ?_⟩
            · rw [← he]
              exact ⟨rfl, g3, by show d + 1 ≤ 21; omega, hth38⟩
            · rw [← he] at q
              exact absurd hp20 q
        · have hp20 : ¬ (pT T l (zq T l d.toNat)).1 = 0 := by
            rcases h20 with h | h
            · exact absurd h.1 (by omega)
            · exact h.2
          refine z_aload_n dX2_read_26 rfl ?_
          refine z_getI (kI := 2) dX2_read_27 fX2_19 (by decide) (zsh178) rfl rfl ?_
          refine z_iret dX2_read_30 rfl ?_
          rw [if_neg (fun q => hp20 q.1)] at he
          refine ⟨hCm, fun q => ?_, fun q => ?_⟩
          · rw [← he] at q
            exact absurd q hp20
          · rw [← he, hA20.2.2]
  exact zsub' (L 22 0 N7 (by omega) (by omega) hA0 (show 3 * (0 : Int) ≤ 0 ∧ 0 ≤ l by omega) (by rw [hN7, zm_up_at]) hC0 (fun e q1 q2 => absurd q1 (by omega)) rfl) ⟨rfl, rfl, trivial⟩

