/-! ===== both at once ===== -/
theorem zB_cg {σ τ : zS} (h : zB σ) (he : ∀ j : Int, 0 ≤ j → j < 538 → τ j = σ j) : zB τ := by
  obtain ⟨⟨⟨h1, h2, h3⟩, hJ, hZ⟩, h8, h6⟩ := h
  refine ⟨⟨⟨?_, fun c q1 q2 => ?_, fun k q1 q2 => ?_⟩, fun c q1 q2 => ?_, fun c q1 q2 q3 => ?_⟩, ?_, ?_⟩
  · unfold zIs at h1 ⊢
    rw [he 531 (by omega) (by omega), he 532 (by omega) (by omega), he 533 (by omega) (by omega), he 534 (by omega) (by omega), he 535 (by omega) (by omega)]
    exact h1
  · have := h2 c q1 q2
    unfold zIc at this ⊢
    rw [he c (by omega) (by omega), he (120 + c) (by omega) (by omega), he (240 + c) (by omega) (by omega)]
    exact this
  · have := h3 k q1 q2
    unfold zIk at this ⊢
    simp only [he (360 + 10 * k + 0) (by omega) (by omega), he (360 + 10 * k + 1) (by omega) (by omega), he (360 + 10 * k + 2) (by omega) (by omega), he (360 + 10 * k + 3) (by omega) (by omega), he (360 + 10 * k + 4) (by omega) (by omega), he (360 + 10 * k + 5) (by omega) (by omega), he (360 + 10 * k + 6) (by omega) (by omega), he (360 + 10 * k + 7) (by omega) (by omega), he (360 + 10 * k + 8) (by omega) (by omega), he (360 + 10 * k + 9) (by omega) (by omega)]
    exact this
  · rw [he (240 + c) (by omega) (by omega), he 531 (by omega) (by omega)]
    exact hJ c q1 q2
  · rw [he (120 + c) (by omega) (by omega)] at q3
    rw [he (240 + c) (by omega) (by omega)]
    exact hZ c q1 q2 q3
  · rw [he 535 (by omega) (by omega)]
    exact h8
  · rw [he 536 (by omega) (by omega)]
    exact h6
theorem zX_cg {σ τ : zS} (h : zX σ) (hB : zB σ) (he : ∀ j : Int, 0 ≤ j → j < 538 → τ j = σ j) : zX τ := by
  have hs := hB.1.1.1
  unfold zIs at hs
  exact zX_le h (by omega) (he 535 (by omega) (by omega)) (he 537 (by omega) (by omega)) (fun c q1 q2 => Or.inl (he _ (by omega) (by omega))) (fun k q1 q2 => ⟨he _ (by omega) (by omega), he _ (by omega) (by omega), Or.inl (he _ (by omega) (by omega))⟩)
def zSees (M : zM) (p : Int) (σ : zS) : Prop := zRel M p σ ∧ zB σ ∧ zX σ
theorem zSees.cg {M : zM} {p : Int} {σ τ : zS} (h : zSees M p σ) (he : ∀ j : Int, 0 ≤ j → j < 538 → τ j = σ j) : zSees M p τ := ⟨h.1.cg h.2.1.1.1 he, zB_cg h.2.1 he, zX_cg h.2.2 h.2.1 he⟩
theorem zSees.mv {M N : zM} {p : Int} {σ : zS} (h : zSees M p σ) (he : ∀ a : Int, p ≤ a → a < p + 25 → N a = M a) : zSees N p σ := ⟨h.1.mv he, h.2⟩
def zHist (M : zM) : Prop := (0 ≤ M 176 2 ∧ M 176 2 < 4) ∧ M 176 1 = M 187 3 ∧ (0 ≤ M 187 3 ∧ M 187 3 ≤ 4) ∧ ∀ i : Int, 0 ≤ i → i < M 187 3 → zSees M (75 + 25 * ((M 176 2 + 4 - M 187 3 + i) % 4)) (fun j => M 190 (538 * i + j))
def zSnap (M : zM) : Prop := M 175 3 = M 187 5 ∧ (M 187 5 = 0 ∨ M 187 5 = 1) ∧ (M 187 5 = 1 → zSees M 50 (M 191))
def zText (M : zM) : Prop := M 178 1 = M 187 7 ∧ zTx M ∧ ∀ j : Int, j < M 187 7 → M 179 j = M 192 j
def zStop (M : zM) : Prop := (M 187 8 = 0 ∧ M 175 7 = -5 ∧ M 175 8 = -5) ∨ (M 187 8 = 1 ∧ M 175 7 = M 187 9 ∧ M 175 8 = M 187 10)
/-- the class (0 .. 186) and the model (187 .. 194) tell the same -/
def zC (M : zM) : Prop := zSees M 0 (M 188) ∧ zHist M ∧ zSnap M ∧ zText M ∧ zStop M
/-- what it speaks of -/
def zFr (M N : zM) : Prop := (∀ a : Int, (a < 25 ∨ (50 ≤ a ∧ a < 177) ∨ a = 179 ∨ a = 188 ∨ (190 ≤ a ∧ a ≤ 192)) → N a = M a) ∧ N 178 1 = M 178 1 ∧ ∀ j : Int, j < 11 → N 187 j = M 187 j
theorem zHist.fr {M N : zM} (h : zHist M) (e1 : ∀ a : Int, (75 ≤ a ∧ a < 175) ∨ a = 176 ∨ a = 190 → N a = M a) (e3 : N 187 3 = M 187 3) : zHist N := by
  obtain ⟨h1, h2, h3, h4⟩ := h
  unfold zHist
  rw [e1 176 (by omega), e3, e1 190 (by omega)]
  refine ⟨h1, h2, h3, fun i q1 q2 => (h4 i q1 q2).mv (fun a q3 q4 => e1 a (by omega))⟩
theorem zSnap.fr {M N : zM} (h : zSnap M) (e1 : ∀ a : Int, (50 ≤ a ∧ a < 75) ∨ a = 191 → N a = M a) (e3 : N 187 5 = M 187 5) (e2 : N 175 3 = M 175 3) : zSnap N := by
  obtain ⟨h1, h2, h3⟩ := h
  unfold zSnap
  rw [e2, e3, e1 191 (by omega)]
  exact ⟨h1, h2, fun q => (h3 q).mv (fun a q3 q4 => e1 a (by omega))⟩
theorem zText.fr {M N : zM} (h : zText M) (e1 : N 179 = M 179) (e2 : N 192 = M 192) (e3 : N 178 1 = M 178 1) (e4 : N 187 7 = M 187 7) : zText N := by
  unfold zText zTx at h ⊢
  rw [e1, e2, e3, e4]
  exact h
theorem zStop.fr {M N : zM} (h : zStop M) (e1 : N 175 7 = M 175 7) (e2 : N 175 8 = M 175 8) (e3 : ∀ j : Int, 8 ≤ j → j < 11 → N 187 j = M 187 j) : zStop N := by
  unfold zStop at h ⊢
  rw [e1, e2, e3 8 (by omega) (by omega), e3 9 (by omega) (by omega), e3 10 (by omega) (by omega)]
  exact h
theorem zC.fr {M N : zM} (h : zC M) (hf : zFr M N) : zC N := by
  obtain ⟨h1, h2, h3, h4, h5⟩ := h
  obtain ⟨f1, f2, f3⟩ := hf
  refine ⟨?_, h2.fr (fun a ha => f1 a (by omega)) (f3 3 (by omega)), h3.fr (fun a ha => f1 a (by omega)) (f3 5 (by omega)) (by rw [f1 175 (by omega)]), h4.fr (f1 179 (by omega)) (f1 192 (by omega)) f2 (f3 7 (by omega)), h5.fr (by rw [f1 175 (by omega)]) (by rw [f1 175 (by omega)]) (fun j _ q => f3 j q)⟩
  rw [f1 188 (by omega)]
  exact h1.mv (fun a q1 q2 => f1 a (by omega))
theorem zFr.kp {M N : zM} (h : zKp M N) : zFr M N := ⟨fun a ha => h.1 a (by omega), h.2, fun j _ => by rw [h.1 187 (by omega)]⟩
theorem zFr.tr {M N K : zM} (h1 : zFr M N) (h2 : zFr N K) : zFr M K := ⟨fun a ha => (h2.1 a ha).trans (h1.1 a ha), h2.2.1.trans h1.2.1, fun j q => (h2.2.2 j q).trans (h1.2.2 j q)⟩
theorem zFr.rf (M : zM) : zFr M M := ⟨fun _ _ => rfl, rfl, fun _ _ => rfl⟩
theorem zFr.ztt {M N : zM} (h1 : ∀ a : Int, a ≠ 189 → a ≠ 193 → a ≠ 194 → N a = M a) : zFr M (zt N (M 188)) := by
  refine ⟨fun a ha => ?_, ?_, fun j _ => ?_⟩
  · by_cases e : a = 188
    · subst e; exact zt_s _ _
    · rw [zt_o N _ e]; exact h1 a (by omega) (by omega) (by omega)
  · rw [zt_o N _ (by omega), h1 178 (by omega) (by omega) (by omega)]
  · rw [zt_o N _ (by omega), h1 187 (by omega) (by omega) (by omega)]
theorem zFr.pk {M N : zM} (h : zPk M N) : zFr M (zt N (M 188)) := by
  refine ⟨fun a ha => ?_, ?_, fun j q => ?_⟩
  · by_cases e : a = 188
    · subst e; exact zt_s _ _
    · rw [zt_o N _ e]; exact h.1 a (by omega)
  · rw [zt_o N _ (by omega), h.1 178 (by omega)]
  · rw [zt_o N _ (by omega), h.2 j (by omega)]
