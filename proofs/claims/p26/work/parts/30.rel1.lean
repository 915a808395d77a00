/-! ===== the relation kept by the acts ===== -/
theorem zRel.cells {M N : zM} {p : Int} {σ τ : zS} (h : zRel M p σ) (hI : zI σ) (he : ∀ a : Int, (a = p ∨ (p + 4 ≤ a ∧ a < p + 25)) → N a = M a) (ht : ∀ j : Int, 360 ≤ j → j < 537 → τ j = σ j) (hc : ∀ c : Int, 0 ≤ c → c < 120 → zRc N p τ c) : zRel N p τ := by
  obtain ⟨h1, h2, h3, h4, h5, h6, h7⟩ := h
  have hs := hI.1
  unfold zIs at hs
  have e5 := ht 535 (by omega) (by omega)
  refine ⟨hc, fun k q1 q2 => ?_, fun k q1 q2 => ?_, fun a b q1 q2 q3 q4 => ?_, ?_, ?_, ?_⟩
  · rw [e5] at q2
    have := h2 k q1 q2
    unfold zRk at this ⊢
    rw [ht (360 + 10 * k + 0) (by omega) (by omega), ht (360 + 10 * k + 1) (by omega) (by omega), ht (360 + 10 * k + 2) (by omega) (by omega), ht (360 + 10 * k + 3) (by omega) (by omega), ht (360 + 10 * k + 4) (by omega) (by omega), ht (360 + 10 * k + 5) (by omega) (by omega), ht (360 + 10 * k + 6) (by omega) (by omega), ht (360 + 10 * k + 7) (by omega) (by omega), ht (360 + 10 * k + 8) (by omega) (by omega), ht (360 + 10 * k + 9) (by omega) (by omega), he (p + 4) (by omega), he (p + 5) (by omega), he (p + 6) (by omega), he (p + 7) (by omega), he (p + 8) (by omega), he (p + 9) (by omega), he (p + 10) (by omega), he (p + 11) (by omega), he (p + 12) (by omega), he (p + 13) (by omega)]
    exact this
  · rw [e5] at q1
    have := h3 k q1 q2
    unfold zRe at this ⊢
    rw [he (p + 7) (by omega), he (p + 8) (by omega), he (p + 9) (by omega), he (p + 10) (by omega), he (p + 11) (by omega), he (p + 12) (by omega), he (p + 13) (by omega)]
    exact this
  · have := h4 a b q1 q2 q3 q4
    unfold zRo at this ⊢
    rw [e5, ht (450 + 9 * a + b) (by omega) (by omega), he (p + 15 + a) (by omega)]
    exact this
  · rw [ht 531 (by omega) (by omega), ht 532 (by omega) (by omega), ht 533 (by omega) (by omega), ht 534 (by omega) (by omega), he (p + 24) (by omega)]
    exact h5
  · rw [e5, he p (by omega)]
    exact h6
  · rw [ht 536 (by omega) (by omega), he p (by omega)]
    exact h7
theorem zm_up_if (M : zM) (a i v b j : Int) : zm_up M a i v b j = if b = a ∧ j = i then v else M b j := rfl
/-- frost set -/
theorem rel_fz {M : zM} {p c f : Int} {σ : zS} (h : zRel M p σ) (hI : zI σ) (hc : 0 ≤ c ∧ c < 120) : zRel (zm_up (zm_up (zm_up M (p + 1) c f) (p + 2) c (-5)) (p + 3) c (-5)) p (sFz σ c f) := by
  refine h.cells hI (fun a ha => by rw [zm_up_off (by omega), zm_up_off (by omega), zm_up_off (by omega)]) (fun j q1 q2 => sFz_o (by omega)) (fun d q1 q2 => ?_)
  have hd := h.1 d q1 q2
  unfold zRc at hd ⊢
  by_cases he : d = c
  · subst he
    have e1 : sFz σ d f d = f := by unfold sFz; rw [zu_ne (by omega), zu_ne (by omega), zu_at]
    have e2 : sFz σ d f (120 + d) = 0 := by unfold sFz; rw [zu_ne (by omega), zu_at]
    rw [e1, e2, zm_up_off (show p + 1 ≠ p + 3 by omega), zm_up_off (show p + 1 ≠ p + 2 by omega), zm_up_at, zm_up_off (show p + 2 ≠ p + 3 by omega), zm_up_at, zm_up_at]
    exact ⟨rfl, Or.inl ⟨rfl, rfl, rfl⟩⟩
  · rw [sFz_o (j := d) (by omega), sFz_o (j := 120 + d) (by omega), sFz_o (j := 240 + d) (by omega)]
    rw [zm_up_off (show p + 1 ≠ p + 3 by omega), zm_up_off (show p + 1 ≠ p + 2 by omega), zm_up_ne he, zm_up_off (show p + 2 ≠ p + 3 by omega), zm_up_ne he, zm_up_off (show p + 2 ≠ p + 1 by omega), zm_up_ne he, zm_up_off (show p + 3 ≠ p + 2 by omega), zm_up_off (show p + 3 ≠ p + 1 by omega)]
    exact hd
/-- the turn told on -/
theorem rel_tick {M : zM} {p : Int} {σ : zS} (h : zRel M p σ) (hI : zI σ) : zRel (zm_up M p 16 (σ 536 + 1)) p (sTick σ) := by
  obtain ⟨h1, h2, h3, h4, h5, h6, h7⟩ := h
  have hs := hI.1
  unfold zIs at hs
  have o : ∀ j : Int, j ≠ 536 → sTick σ j = σ j := fun j hj => zu_ne hj
  refine ⟨fun c q1 q2 => ?_, fun k q1 q2 => ?_, fun k q1 q2 => ?_, fun a b q1 q2 q3 q4 => ?_, ?_, ?_, ?_⟩
  · have := h1 c q1 q2
    unfold zRc at this ⊢
    rw [o c (by omega), o (120 + c) (by omega), o (240 + c) (by omega), zm_up_off (by omega), zm_up_off (by omega), zm_up_off (by omega)]
    exact this
  · rw [o 535 (by omega)] at q2
    have := h2 k q1 q2
    unfold zRk at this ⊢
    rw [o (360 + 10 * k + 0) (by omega), o (360 + 10 * k + 1) (by omega), o (360 + 10 * k + 2) (by omega), o (360 + 10 * k + 3) (by omega), o (360 + 10 * k + 4) (by omega), o (360 + 10 * k + 5) (by omega), o (360 + 10 * k + 6) (by omega), o (360 + 10 * k + 7) (by omega), o (360 + 10 * k + 8) (by omega), o (360 + 10 * k + 9) (by omega), zm_up_off (by omega), zm_up_off (by omega), zm_up_off (by omega), zm_up_off (by omega), zm_up_off (by omega), zm_up_off (by omega), zm_up_off (by omega), zm_up_off (by omega), zm_up_off (by omega), zm_up_off (by omega)]
    exact this
  · rw [o 535 (by omega)] at q1
    have := h3 k q1 q2
    unfold zRe at this ⊢
    rw [zm_up_off (by omega), zm_up_off (by omega), zm_up_off (by omega), zm_up_off (by omega), zm_up_off (by omega), zm_up_off (by omega), zm_up_off (by omega)]
    exact this
  · have := h4 a b q1 q2 q3 q4
    unfold zRo at this ⊢
    rw [o 535 (by omega), o (450 + 9 * a + b) (by omega), zm_up_off (by omega)]
    exact this
  · rw [o 531 (by omega), o 532 (by omega), o 533 (by omega), o 534 (by omega), zm_up_off (by omega)]
    exact h5
  · rw [o 535 (by omega), zm_up_ne (by omega)]
    exact h6
  · rw [zm_up_at]
    exact zu_at.symm
/-- a setting set -/
theorem rel_set {M : zM} {p w x : Int} {σ : zS} (h : zRel M p σ) (hI : zI σ) (hw : 0 ≤ w ∧ w ≤ 3) : zRel (zm_up M (p + 24) w x) p (zu σ (531 + w) x) := by
  obtain ⟨h1, h2, h3, h4, h5, h6, h7⟩ := h
  have hs := hI.1
  unfold zIs at hs
  have o : ∀ j : Int, j ≠ 531 + w → zu σ (531 + w) x j = σ j := fun j hj => zu_ne hj
  refine ⟨fun c q1 q2 => ?_, fun k q1 q2 => ?_, fun k q1 q2 => ?_, fun a b q1 q2 q3 q4 => ?_, ?_, ?_, ?_⟩
  · have := h1 c q1 q2
    unfold zRc at this ⊢
    rw [o c (by omega), o (120 + c) (by omega), o (240 + c) (by omega), zm_up_off (by omega), zm_up_off (by omega), zm_up_off (by omega)]
    exact this
  · rw [o 535 (by omega)] at q2
    have := h2 k q1 q2
    unfold zRk at this ⊢
    rw [o (360 + 10 * k + 0) (by omega), o (360 + 10 * k + 1) (by omega), o (360 + 10 * k + 2) (by omega), o (360 + 10 * k + 3) (by omega), o (360 + 10 * k + 4) (by omega), o (360 + 10 * k + 5) (by omega), o (360 + 10 * k + 6) (by omega), o (360 + 10 * k + 7) (by omega), o (360 + 10 * k + 8) (by omega), o (360 + 10 * k + 9) (by omega), zm_up_off (by omega), zm_up_off (by omega), zm_up_off (by omega), zm_up_off (by omega), zm_up_off (by omega), zm_up_off (by omega), zm_up_off (by omega), zm_up_off (by omega), zm_up_off (by omega), zm_up_off (by omega)]
    exact this
  · rw [o 535 (by omega)] at q1
    have := h3 k q1 q2
    unfold zRe at this ⊢
    rw [zm_up_off (by omega), zm_up_off (by omega), zm_up_off (by omega), zm_up_off (by omega), zm_up_off (by omega), zm_up_off (by omega), zm_up_off (by omega)]
    exact this
  · have := h4 a b q1 q2 q3 q4
    unfold zRo at this ⊢
    rw [o 535 (by omega), o (450 + 9 * a + b) (by omega), zm_up_off (by omega)]
    exact this
  · rcases (show w = 0 ∨ w = 1 ∨ w = 2 ∨ w = 3 by omega) with rfl | rfl | rfl | rfl
    · rw [zm_up_at, zm_up_ne (by decide), zm_up_ne (by decide), zm_up_ne (by decide), o 532 (by decide), o 533 (by decide), o 534 (by decide)]
      exact ⟨zu_at.symm, h5.2⟩
    · rw [zm_up_at, zm_up_ne (by decide), zm_up_ne (by decide), zm_up_ne (by decide), o 531 (by decide), o 533 (by decide), o 534 (by decide)]
      exact ⟨h5.1, zu_at.symm, h5.2.2⟩
    · rw [zm_up_at, zm_up_ne (by decide), zm_up_ne (by decide), zm_up_ne (by decide), o 531 (by decide), o 532 (by decide), o 534 (by decide)]
      exact ⟨h5.1, h5.2.1, zu_at.symm, h5.2.2.2⟩
    · rw [zm_up_at, zm_up_ne (by decide), zm_up_ne (by decide), zm_up_ne (by decide), o 531 (by decide), o 532 (by decide), o 533 (by decide)]
      exact ⟨h5.1, h5.2.1, h5.2.2.1, zu_at.symm⟩
  · rw [o 535 (by omega), zm_up_off (by omega)]
    exact h6
  · rw [o 536 (by omega), zm_up_off (by omega)]
    exact h7

