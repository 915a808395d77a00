/-! ===== both at once ===== -/
theorem zB_cg {σ τ : zS} (h : zB σ) (he : ∀ j : Int, 0 ≤ j → j < 538 → τ j = σ j) : zB τ := by
  obtain ⟨⟨⟨h1, h2, h3⟩, hJ, hZ⟩, h8, h6⟩ := h
  refine ⟨⟨⟨?_, fun c q1 q2 => ?_, fun k q1 q2 => ?_⟩, fun c q1 q2 => ?_, fun c q1 q2 q3 => ?_⟩, ?_, ?_⟩
  · unfold zIs at h1 ⊢
    rw [he 531 (by omega) (by omega), he 532 (by omega) (by omega), he 533 (by omega) (by omega), he 534 (by omega) (by omega), he 535 (by omega) (by omega)]
    exact h1
  · have := h2 c q1 q2
    unfold zIc at this ⊢
    rw [he c (by omega) (by omega), he (120 + c) (by omega) (by omega), he (240 + c) (by omega) (by omega)]
    exact this
  · have := h3 k q1 q2
    unfold zIk at this ⊢
    simp only [he (360 + 10 * k + 0) (by omega) (by omega), he (360 + 10 * k + 1) (by omega) (by omega), he (360 + 10 * k + 2) (by omega) (by omega), he (360 + 10 * k + 3) (by omega) (by omega), he (360 + 10 * k + 4) (by omega) (by omega), he (360 + 10 * k + 5) (by omega) (by omega), he (360 + 10 * k + 6) (by omega) (by omega), he (360 + 10 * k + 7) (by omega) (by omega), he (360 + 10 * k + 8) (by omega) (by omega), he (360 + 10 * k + 9) (by omega) (by omega)]
    exact this
  · rw [he (240 + c) (by omega) (by omega), he 531 (by omega) (by omega)]
    exact hJ c q1 q2
  · rw [he (120 + c) (by omega) (by omega)] at q3
    rw [he (240 + c) (by omega) (by omega)]
    exact hZ c q1 q2 q3
  · rw [he 535 (by omega) (by omega)]
    exact h8
  · rw [he 536 (by omega) (by omega)]
    exact h6
theorem zX_cg {σ τ : zS} (h : zX σ) (hB : zB σ) (he : ∀ j : Int, 0 ≤ j → j < 538 → τ j = σ j) : zX τ := by
  have hs := hB.1.1.1
  unfold zIs at hs
  exact zX_le h (by omega) (he 535 (by omega) (by omega)) (he 537 (by omega) (by omega)) (fun c q1 q2 => Or.inl (he _ (by omega) (by omega))) (fun k q1 q2 => ⟨he _ (by omega) (by omega), he _ (by omega) (by omega), Or.inl (he _ (by omega) (by omega))⟩)
def zSees (M : zM) (p : Int) (σ : zS) : Prop := zRel M p σ ∧ zB σ ∧ zX σ
theorem zSees.cg {M : zM} {p : Int} {σ τ : zS} (h : zSees M p σ) (he : ∀ j : Int, 0 ≤ j → j < 538 → τ j = σ j) : zSees M p τ := ⟨h.1.cg h.2.1.1.1 he, zB_cg h.2.1 he, zX_cg h.2.2 h.2.1 he⟩
theorem zSees.mv {M N : zM} {p : Int} {σ : zS} (h : zSees M p σ) (he : ∀ a : Int, p ≤ a → a < p + 25 → N a = M a) : zSees N p σ := ⟨h.1.mv he, h.2⟩
/-- what it speaks of -/
def zFr (M N : zM) : Prop := (∀ a : Int, (a < 25 ∨ (50 ≤ a ∧ a < 177) ∨ a = 179 ∨ a = 188 ∨ (190 ≤ a ∧ a ≤ 192)) → N a = M a) ∧ N 178 1 = M 178 1 ∧ ∀ j : Int, j < 11 → N 187 j = M 187 j
theorem zFr.tr {M N K : zM} (h1 : zFr M N) (h2 : zFr N K) : zFr M K := ⟨fun a ha => (h2.1 a ha).trans (h1.1 a ha), h2.2.1.trans h1.2.1, fun j q => (h2.2.2 j q).trans (h1.2.2 j q)⟩
theorem zFr.rf (M : zM) : zFr M M := ⟨fun _ _ => rfl, rfl, fun _ _ => rfl⟩
