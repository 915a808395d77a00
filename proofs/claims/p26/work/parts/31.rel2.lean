/-- a snail taken off -/
theorem rel_off {M : zM} {p k : Int} {σ : zS} (h : zRel M p σ) (hI : zI σ) (hk : 0 ≤ k ∧ k < σ 535) : zRel (zm_up M (p + 7) k 2) p (zu σ (360 + 10 * k + 3) 2) := by
  obtain ⟨h1, h2, h3, h4, h5, h6, h7⟩ := h
  have hs := hI.1
  unfold zIs at hs
  have o : ∀ j : Int, j ≠ 360 + 10 * k + 3 → zu σ (360 + 10 * k + 3) 2 j = σ j := fun j hj => zu_ne hj
  refine ⟨fun c q1 q2 => ?_, fun a q1 q2 => ?_, fun a q1 q2 => ?_, fun a b q1 q2 q3 q4 => ?_, ?_, ?_, ?_⟩
  · have := h1 c q1 q2
    unfold zRc at this ⊢
    rw [o c (by omega), o (120 + c) (by omega), o (240 + c) (by omega), zm_up_off (by omega), zm_up_off (by omega), zm_up_off (by omega)]
    exact this
  · rw [o 535 (by omega)] at q2
    have := h2 a q1 q2
    unfold zRk at this ⊢
    rw [o (360 + 10 * a + 0) (by omega), o (360 + 10 * a + 1) (by omega), o (360 + 10 * a + 2) (by omega), o (360 + 10 * a + 4) (by omega), o (360 + 10 * a + 5) (by omega), o (360 + 10 * a + 6) (by omega), o (360 + 10 * a + 7) (by omega), o (360 + 10 * a + 8) (by omega), o (360 + 10 * a + 9) (by omega), zm_up_off (show p + 4 ≠ p + 7 by omega), zm_up_off (show p + 5 ≠ p + 7 by omega), zm_up_off (show p + 6 ≠ p + 7 by omega), zm_up_off (show p + 8 ≠ p + 7 by omega), zm_up_off (show p + 9 ≠ p + 7 by omega), zm_up_off (show p + 10 ≠ p + 7 by omega), zm_up_off (show p + 11 ≠ p + 7 by omega), zm_up_off (show p + 12 ≠ p + 7 by omega), zm_up_off (show p + 13 ≠ p + 7 by omega)]
    by_cases ha : a = k
    · subst ha
      rw [zm_up_at, zu_at]
      exact ⟨this.1, this.2.1, this.2.2.1, rfl, this.2.2.2.2⟩
    · rw [zm_up_ne ha, o (360 + 10 * a + 3) (by omega)]
      exact this
  · rw [o 535 (by omega)] at q1
    have := h3 a q1 q2
    unfold zRe at this ⊢
    rw [zm_up_ne (by omega), zm_up_off (by omega), zm_up_off (by omega), zm_up_off (by omega), zm_up_off (by omega), zm_up_off (by omega), zm_up_off (by omega)]
    exact this
  · have := h4 a b q1 q2 q3 q4
    unfold zRo at this ⊢
    rw [o 535 (by omega), o (450 + 9 * a + b) (by omega), zm_up_off (by omega)]
    exact this
  · rw [o 531 (by omega), o 532 (by omega), o 533 (by omega), o 534 (by omega), zm_up_off (by omega)]
    exact h5
  · rw [o 535 (by omega), zm_up_off (by omega)]
    exact h6
  · rw [o 536 (by omega), zm_up_off (by omega)]
    exact h7
/-- one more snail -/
theorem rel_come {M N : zM} {p lane slime : Int} {σ : zS} (h : zRel M p σ) (hm : 0 ≤ σ 535 ∧ σ 535 ≤ 8) (e0 : ∀ a : Int, a ≠ p + 4 → a ≠ p + 5 → a ≠ p + 6 → a ≠ p → N a = M a) (e4 : ∀ j : Int, N (p + 4) j = if j = σ 535 then lane else M (p + 4) j) (e5 : ∀ j : Int, N (p + 5) j = if j = σ 535 then 0 else M (p + 5) j) (e6 : ∀ j : Int, N (p + 6) j = if j = σ 535 then slime else M (p + 6) j) (e15 : N p 15 = σ 535 + 1) (e16 : N p 16 = M p 16) : zRel N p (sCome σ lane slime) := by
  obtain ⟨h1, h2, h3, h4, h5, h6, h7⟩ := h
  refine ⟨fun c q1 q2 => ?_, fun k q1 q2 => ?_, fun k q1 q2 => ?_, fun a b q1 q2 q3 q4 => ?_, ?_, ?_, ?_⟩
  · have := h1 c q1 q2
    unfold zRc at this ⊢
    rw [sCo_off hm (by omega), sCo_off hm (by omega), sCo_off hm (by omega), e0 (p + 1) (by omega) (by omega) (by omega) (by omega), e0 (p + 2) (by omega) (by omega) (by omega) (by omega), e0 (p + 3) (by omega) (by omega) (by omega) (by omega)]
    exact this
  · rw [sCo_many hm] at q2
    unfold zRk
    rw [e4, e5, e6, e0 (p + 7) (by omega) (by omega) (by omega) (by omega), e0 (p + 8) (by omega) (by omega) (by omega) (by omega), e0 (p + 9) (by omega) (by omega) (by omega) (by omega), e0 (p + 10) (by omega) (by omega) (by omega) (by omega), e0 (p + 11) (by omega) (by omega) (by omega) (by omega), e0 (p + 12) (by omega) (by omega) (by omega) (by omega), e0 (p + 13) (by omega) (by omega) (by omega) (by omega)]
    by_cases hk : k = σ 535
    · have := h3 k (by omega) (by omega)
      unfold zRe at this
      subst hk
      rw [sCo_at hm (w := 0) (by omega), sCo_at hm (w := 1) (by omega), sCo_at hm (w := 2) (by omega), sCo_at hm (w := 3) (by omega), sCo_at hm (w := 4) (by omega), sCo_at hm (w := 5) (by omega), sCo_at hm (w := 6) (by omega), sCo_at hm (w := 7) (by omega), sCo_at hm (w := 8) (by omega), sCo_at hm (w := 9) (by omega)]
      simp
      omega
    · have := h2 k q1 (by omega)
      unfold zRk at this
      rw [if_neg hk, if_neg hk, if_neg hk, sCo_off hm (by omega), sCo_off hm (by omega), sCo_off hm (by omega), sCo_off hm (by omega), sCo_off hm (by omega), sCo_off hm (by omega), sCo_off hm (by omega), sCo_off hm (by omega), sCo_off hm (by omega), sCo_off hm (by omega)]
      exact this
  · rw [sCo_many hm] at q1
    have := h3 k (by omega) q2
    unfold zRe at this ⊢
    rw [e0 (p + 7) (by omega) (by omega) (by omega) (by omega), e0 (p + 8) (by omega) (by omega) (by omega) (by omega), e0 (p + 9) (by omega) (by omega) (by omega) (by omega), e0 (p + 10) (by omega) (by omega) (by omega) (by omega), e0 (p + 11) (by omega) (by omega) (by omega) (by omega), e0 (p + 12) (by omega) (by omega) (by omega) (by omega), e0 (p + 13) (by omega) (by omega) (by omega) (by omega)]
    exact this
  · have := h4 a b q1 q2 q3 q4
    unfold zRo at this ⊢
    rw [sCo_many hm, e0 (p + 15 + a) (by omega) (by omega) (by omega) (by omega)]
    by_cases hk : a = σ 535 ∨ b = σ 535
    · rw [sCo_ow0 hm ⟨q1, q2⟩ ⟨q3, q4⟩ hk]
      omega
    · rw [sCo_ow hm ⟨q1, q2⟩ ⟨q3, q4⟩ (by omega)]
      omega
  · rw [sCo_off hm (by omega), sCo_off hm (by omega), sCo_off hm (by omega), sCo_off hm (by omega), e0 (p + 24) (by omega) (by omega) (by omega) (by omega)]
    exact h5
  · rw [sCo_many hm, e15]
  · rw [sCo_off hm (by omega), e16]
    exact h7
/-- the cells as the trails dry, t turns older -/
theorem rel_dry {M N : zM} {p : Int} {σ τ : zS} (h : zRel M p σ) (hI : zI σ) (e0 : ∀ a : Int, a ≠ p + 2 → a ≠ p + 3 → N a = M a) (e2 : ∀ c : Int, 0 ≤ c → c < 120 → N (p + 2) c = if 0 < σ (120 + c) ∧ τ (240 + c) > σ 531 then -5 else M (p + 2) c) (e3 : ∀ c : Int, 0 ≤ c → c < 120 → N (p + 3) c = if 0 < σ (120 + c) ∧ τ (240 + c) > σ 531 then -5 else if 0 < σ (120 + c) then τ (240 + c) else M (p + 3) c) (ht : ∀ j : Int, (j < 240 ∨ 360 ≤ j) → τ j = σ j) (hz : ∀ c : Int, 0 ≤ c → c < 120 → σ (120 + c) = 0 → τ (240 + c) = σ (240 + c)) : zRel N p (sDry τ) := by
  refine h.cells hI (fun a ha => e0 a (by omega) (by omega)) (fun j q1 q2 => by rw [sDry_o _ (by omega), ht j (by omega)]) (fun c q1 q2 => ?_)
  have hc := h.1 c q1 q2
  have hi := hI.2.1 c q1 q2
  have g2 := e2 c q1 q2
  have g3 := e3 c q1 q2
  unfold zIc at hi
  unfold zRc at hc ⊢
  rw [sDry_o _ (by omega), sDry_tr τ ⟨q1, q2⟩, sDry_ag τ ⟨q1, q2⟩, e0 (p + 1) (by omega) (by omega), ht c (by omega), ht (120 + c) (by omega), ht 531 (by omega)]
  by_cases hd : 0 < σ (120 + c) ∧ τ (240 + c) > σ 531
  · rw [if_pos hd] at g2 g3
    rw [if_pos hd, if_pos hd]
    exact ⟨hc.1, Or.inl ⟨rfl, g2, g3⟩⟩
  · rw [if_neg hd] at g2 g3
    rw [if_neg hd, if_neg hd]
    by_cases h0 : 0 < σ (120 + c)
    · rw [if_pos h0] at g3
      exact ⟨hc.1, Or.inr ⟨h0, by omega, g3⟩⟩
    · rw [if_neg h0] at g3
      exact ⟨hc.1, Or.inl ⟨by omega, by omega, by omega⟩⟩
/-- frost grown -/
theorem rel_grow {M N : zM} {p : Int} {σ : zS} (h : zRel M p σ) (hI : zI σ) (e0 : ∀ a : Int, a ≠ p + 1 → N a = M a) (e1 : ∀ c : Int, 0 ≤ c → c < 120 → N (p + 1) c = M (p + 1) c + if σ (120 + c) = 0 ∧ σ c < 9 then 1 else 0) : zRel N p (sGrow 1 σ) := by
  refine h.cells hI (fun a ha => e0 a (by omega)) (fun j q1 q2 => sGrow_o _ _ (by omega)) (fun c q1 q2 => ?_)
  have hc := h.1 c q1 q2
  unfold zRc at hc ⊢
  rw [sGrow_fr 1 σ ⟨q1, q2⟩, sGrow_o _ _ (by omega), sGrow_o _ _ (by omega), e0 (p + 2) (by omega), e0 (p + 3) (by omega), e1 c q1 q2, hc.1]
  refine ⟨?_, hc.2⟩
  congr 1
  simp
theorem sGrow_0 (σ : zS) : sGrow 0 σ = σ := by
  funext j
  rw [sGrow_at]
  split
  · rw [if_neg (by omega), Int.add_zero]
  · rfl
/-- a rest -/
theorem rel_rest {M N : zM} {p k : Int} {σ : zS} (h : zRel M p σ) (hI : zI σ) (hk : 0 ≤ k ∧ k < σ 535) (e0 : ∀ a : Int, a ≠ p + 6 → a ≠ p + 11 → a ≠ p + 12 → a ≠ p + 13 → N a = M a) (e6 : ∀ j : Int, N (p + 6) j = if j = k then (if σ (360 + 10 * k + 2) + σ 533 > 99 then 99 else σ (360 + 10 * k + 2) + σ 533) else M (p + 6) j) (e11 : ∀ j : Int, N (p + 11) j = if j = k then M (p + 11) k + 1 else M (p + 11) j) (e12 : ∀ j : Int, N (p + 12) j = if j = k then -5 else M (p + 12) j) (e13 : ∀ j : Int, N (p + 13) j = if j = k then 0 else M (p + 13) j) : zRel N p (sRest σ k) := by
  obtain ⟨h1, h2, h3, h4, h5, h6, h7⟩ := h
  have hs := hI.1
  unfold zIs at hs
  have o : ∀ j : Int, (j < 360 + 10 * k ∨ 370 + 10 * k ≤ j) → sRest σ k j = σ j := fun j hj => sRs_off (by omega) (by omega) (by omega) (by omega)
  have f0 : ∀ a : Int, a ≠ p + 6 ∧ a ≠ p + 11 ∧ a ≠ p + 12 ∧ a ≠ p + 13 → N a = M a := fun a q => e0 a q.1 q.2.1 q.2.2.1 q.2.2.2
  refine ⟨fun c q1 q2 => ?_, fun a q1 q2 => ?_, fun a q1 q2 => ?_, fun a b q1 q2 q3 q4 => ?_, ?_, ?_, ?_⟩
  · have := h1 c q1 q2
    unfold zRc at this ⊢
    rw [o c (by omega), o (120 + c) (by omega), o (240 + c) (by omega), f0 (p + 1) (by omega), f0 (p + 2) (by omega), f0 (p + 3) (by omega)]
    exact this
  · rw [o 535 (by omega)] at q2
    have := h2 a q1 q2
    unfold zRk at this ⊢
    rw [f0 (p + 4) (by omega), f0 (p + 5) (by omega), e6, f0 (p + 7) (by omega), f0 (p + 8) (by omega), f0 (p + 9) (by omega), f0 (p + 10) (by omega), e11, e12, e13]
    by_cases ha : a = k
    · subst ha
      rw [sRs_off (j := 360 + 10 * a + 0) (by omega) (by omega) (by omega) (by omega), sRs_off (j := 360 + 10 * a + 1) (by omega) (by omega) (by omega) (by omega), sRs_2, sRs_off (j := 360 + 10 * a + 3) (by omega) (by omega) (by omega) (by omega), sRs_off (j := 360 + 10 * a + 4) (by omega) (by omega) (by omega) (by omega), sRs_off (j := 360 + 10 * a + 5) (by omega) (by omega) (by omega) (by omega), sRs_off (j := 360 + 10 * a + 6) (by omega) (by omega) (by omega) (by omega), sRs_7, sRs_8, sRs_9, if_pos rfl, if_pos rfl, if_pos rfl, if_pos rfl]
      exact ⟨this.1, this.2.1, rfl, this.2.2.2.1, this.2.2.2.2.1, this.2.2.2.2.2.1, this.2.2.2.2.2.2.1, by rw [this.2.2.2.2.2.2.2.1], Or.inl ⟨rfl, rfl⟩, rfl⟩
    · rw [if_neg ha, if_neg ha, if_neg ha, if_neg ha, o (360 + 10 * a + 0) (by omega), o (360 + 10 * a + 1) (by omega), o (360 + 10 * a + 2) (by omega), o (360 + 10 * a + 3) (by omega), o (360 + 10 * a + 4) (by omega), o (360 + 10 * a + 5) (by omega), o (360 + 10 * a + 6) (by omega), o (360 + 10 * a + 7) (by omega), o (360 + 10 * a + 8) (by omega), o (360 + 10 * a + 9) (by omega)]
      exact this
  · rw [o 535 (by omega)] at q1
    have := h3 a q1 q2
    unfold zRe at this ⊢
    rw [f0 (p + 7) (by omega), f0 (p + 8) (by omega), f0 (p + 9) (by omega), f0 (p + 10) (by omega), e11, e12, e13, if_neg (by omega), if_neg (by omega), if_neg (by omega)]
    exact this
  · have := h4 a b q1 q2 q3 q4
    unfold zRo at this ⊢
    rw [o 535 (by omega), o (450 + 9 * a + b) (by omega), f0 (p + 15 + a) (by omega)]
    exact this
  · rw [o 531 (by omega), o 532 (by omega), o 533 (by omega), o 534 (by omega), f0 (p + 24) (by omega)]
    exact h5
  · rw [o 535 (by omega), f0 p (by omega)]
    exact h6
  · rw [o 536 (by omega), f0 p (by omega)]
    exact h7
/-- a step -/
theorem rel_creep {M N : zM} {p k step : Int} {σ : zS} (h : zRel M p σ) (ho : zOk σ k step) (hX : zX σ) (h537 : 0 ≤ σ 537) (hk : 0 ≤ k ∧ k < σ 535)
    (e0 : ∀ a : Int, (a = p ∨ a = p + 1 ∨ a = p + 11 ∨ a = p + 24) → N a = M a)
    (e2 : ∀ j : Int, N (p + 2) j = if j = sFrom σ k then k else M (p + 2) j) (e3 : ∀ j : Int, N (p + 3) j = if j = sFrom σ k then 0 else M (p + 3) j)
    (e4 : ∀ j : Int, N (p + 4) j = if j = k then sLn (σ (360 + 10 * k + 0)) step else M (p + 4) j) (e5 : ∀ j : Int, N (p + 5) j = if j = k then σ (360 + 10 * k + 1) + 1 else M (p + 5) j)
    (e6 : ∀ j : Int, N (p + 6) j = if j = k then σ (360 + 10 * k + 2) - sPr σ k step else M (p + 6) j)
    (e7 : ∀ j : Int, N (p + 7) j = if j = k ∧ σ (360 + 10 * k + 1) + 1 = 19 then 1 else M (p + 7) j) (e8 : ∀ j : Int, N (p + 8) j = if j = k ∧ σ (360 + 10 * k + 1) + 1 = 19 then σ 537 + 1 else M (p + 8) j)
    (e9 : ∀ j : Int, N (p + 9) j = if j = k then σ (360 + 10 * k + 5) + 1 else M (p + 9) j)
    (e10 : ∀ j : Int, N (p + 10) j = if j = k ∧ sWhy σ k (sTo σ k step) = 0 then σ (360 + 10 * k + 6) + 1 else M (p + 10) j)
    (e12 : ∀ j : Int, N (p + 12) j = if j = k then (if sWhy σ k (sTo σ k step) = 0 then σ (120 + sTo σ k step) - 1 else -5) else M (p + 12) j)
    (e13 : ∀ j : Int, N (p + 13) j = if j = k then (if sWhy σ k (sTo σ k step) = 0 then (if σ (360 + 10 * k + 8) = σ (120 + sTo σ k step) then σ (360 + 10 * k + 9) + 1 else 1) else 0) else M (p + 13) j)
    (e15 : ∀ a j : Int, 0 ≤ a → a < 9 → N (p + 15 + a) j = if a = k ∧ j = σ (120 + sTo σ k step) - 1 ∧ sWhy σ k (sTo σ k step) = 0 then M (p + 15 + a) j + 1 else M (p + 15 + a) j) : zRel N p (sCreep σ k step) := by
  obtain ⟨h1, h2, h3, h4, h5, h6, h7⟩ := h
  have hr := ho.r
  have hs := ho.1.1
  unfold zIs at hs
  have hXt := hX.1 _ hr.1.1 hr.1.2
  have o5 : sCreep σ k step 535 = σ 535 := sCr_off ho (by omega)
  refine ⟨fun c q1 q2 => ?_, fun a q1 q2 => ?_, fun a q1 q2 => ?_, fun a b q1 q2 q3 q4 => ?_, ?_, ?_, ?_⟩
  · have := h1 c q1 q2
    unfold zRc at this ⊢
    rw [e0 (p + 1) (by omega), e2, e3, sCr_off ho (j := c) (by omega)]
    by_cases hc : c = sFrom σ k
    · subst hc
      rw [if_pos rfl, if_pos rfl, sCr_tr ho, sCr_ag ho]
      exact ⟨this.1, Or.inr ⟨by omega, by omega, rfl⟩⟩
    · rw [if_neg hc, if_neg hc, sCr_off ho (j := 120 + c) (by omega), sCr_off ho (j := 240 + c) (by omega)]
      exact this
  · rw [o5] at q2
    have := h2 a q1 q2
    unfold zRk at this ⊢
    rw [e4, e5, e6, e7, e8, e9, e10, e0 (p + 11) (by omega), e12, e13]
    by_cases ha : a = k
    · subst ha
      rw [sCr_0 ho, sCr_1 ho, sCr_2 ho, sCr_3 ho, sCr_4 ho, sCr_5 ho, sCr_6 ho, sCr_7 ho, sCr_8 ho, sCr_9 ho, if_pos rfl, if_pos rfl, if_pos rfl, if_pos rfl, if_pos rfl, if_pos rfl]
      by_cases hy : sWhy σ a (sTo σ a step) = 0
      · have hw := hr.2.2.2.1 hy
        rw [if_pos hy, if_pos hy, if_pos hy, if_pos hy, if_pos (show a = a ∧ sWhy σ a (sTo σ a step) = 0 from ⟨rfl, hy⟩)]
        by_cases h19 : σ (360 + 10 * a + 1) + 1 = 19
        · rw [if_pos (show a = a ∧ σ (360 + 10 * a + 1) + 1 = 19 from ⟨rfl, h19⟩), if_pos (show a = a ∧ σ (360 + 10 * a + 1) + 1 = 19 from ⟨rfl, h19⟩), if_pos h19, if_pos h19]
          refine ⟨rfl, rfl, rfl, rfl, Or.inr ⟨by omega, rfl⟩, rfl, rfl, this.2.2.2.2.2.2.2.1, Or.inr ⟨by omega, rfl⟩, rfl⟩
        · rw [if_neg (show ¬ (a = a ∧ σ (360 + 10 * a + 1) + 1 = 19) from fun q => h19 q.2), if_neg (show ¬ (a = a ∧ σ (360 + 10 * a + 1) + 1 = 19) from fun q => h19 q.2), if_neg h19, if_neg h19]
          exact ⟨rfl, rfl, rfl, this.2.2.2.1, this.2.2.2.2.1, rfl, rfl, this.2.2.2.2.2.2.2.1, Or.inr ⟨by omega, rfl⟩, rfl⟩
      · rw [if_neg hy, if_neg hy, if_neg hy, if_neg hy, if_neg (show ¬ (a = a ∧ sWhy σ a (sTo σ a step) = 0) from fun q => hy q.2), Int.add_zero (σ (360 + 10 * a + 6))]
        by_cases h19 : σ (360 + 10 * a + 1) + 1 = 19
        · rw [if_pos (show a = a ∧ σ (360 + 10 * a + 1) + 1 = 19 from ⟨rfl, h19⟩), if_pos (show a = a ∧ σ (360 + 10 * a + 1) + 1 = 19 from ⟨rfl, h19⟩), if_pos h19, if_pos h19]
          refine ⟨rfl, rfl, rfl, rfl, Or.inr ⟨by omega, rfl⟩, rfl, this.2.2.2.2.2.2.1, this.2.2.2.2.2.2.2.1, Or.inl ⟨rfl, rfl⟩, rfl⟩
        · rw [if_neg (show ¬ (a = a ∧ σ (360 + 10 * a + 1) + 1 = 19) from fun q => h19 q.2), if_neg (show ¬ (a = a ∧ σ (360 + 10 * a + 1) + 1 = 19) from fun q => h19 q.2), if_neg h19, if_neg h19]
          exact ⟨rfl, rfl, rfl, this.2.2.2.1, this.2.2.2.2.1, rfl, this.2.2.2.2.2.2.1, this.2.2.2.2.2.2.2.1, Or.inl ⟨rfl, rfl⟩, rfl⟩
    · rw [if_neg ha, if_neg ha, if_neg ha, if_neg (fun q => ha q.1), if_neg (fun q => ha q.1), if_neg ha, if_neg (fun q => ha q.1), if_neg ha, if_neg ha]
      rw [sCr_off ho (j := 360 + 10 * a + 0) (by omega), sCr_off ho (j := 360 + 10 * a + 1) (by omega), sCr_off ho (j := 360 + 10 * a + 2) (by omega), sCr_off ho (j := 360 + 10 * a + 3) (by omega), sCr_off ho (j := 360 + 10 * a + 4) (by omega), sCr_off ho (j := 360 + 10 * a + 5) (by omega), sCr_off ho (j := 360 + 10 * a + 6) (by omega), sCr_off ho (j := 360 + 10 * a + 7) (by omega), sCr_off ho (j := 360 + 10 * a + 8) (by omega), sCr_off ho (j := 360 + 10 * a + 9) (by omega)]
      exact this
  · rw [o5] at q1
    have := h3 a q1 q2
    unfold zRe at this ⊢
    rw [e7, e8, e9, e10, e0 (p + 11) (by omega), e12, e13, if_neg (by omega), if_neg (by omega), if_neg (by omega), if_neg (by omega), if_neg (by omega), if_neg (by omega)]
    exact this
  · have := h4 a b q1 q2 q3 q4
    unfold zRo at this ⊢
    rw [o5, sCr_ow ho ⟨q1, q2⟩ ⟨q3, q4⟩, e15 a b q1 q2]
    by_cases hy : sWhy σ k (sTo σ k step) = 0 ∧ a = k ∧ b = σ (120 + sTo σ k step) - 1
    · rw [if_pos hy, if_pos ⟨hy.2.1, hy.2.2, hy.1⟩]
      omega
    · rw [if_neg hy, if_neg (fun q => hy ⟨q.2.2, q.1, q.2.1⟩), Int.add_zero]
      exact this
  · rw [sCr_off ho (j := 531) (by omega), sCr_off ho (j := 532) (by omega), sCr_off ho (j := 533) (by omega), sCr_off ho (j := 534) (by omega), e0 (p + 24) (by omega)]
    exact h5
  · rw [o5, e0 p (by omega)]
    exact h6
  · rw [sCr_off ho (j := 536) (by omega), e0 p (by omega)]
    exact h7

