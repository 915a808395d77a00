/-! ===== a call of the class, then the same call of the model ===== -/
def zPair (G : zG) (y : MethodName) (Y : zY) (y' : MethodName) (Y' : zY) (av : List zV) (M : zM) : Prop :=
  ∃ Q : Option zV → zM → Prop, zCall G y Y (.inr (some 175) :: av) M Q ∧ ∀ (v : Option zV) (M1 : zM), Q v M1 → ∃ r : Int, v = some (.inl r) ∧ ∃ Q' : Option zV → zM → Prop, zCall G y' Y' (.inr (some 187) :: av) M1 Q' ∧ ∀ (w : Option zV) (M2 : zM), Q' w M2 → w = some (.inl r) ∧ zC M2
theorem zActP.m {M N : zM} {σ τ : zS} {b r : Int} {v : Option zV} (h : zActP M σ b r τ v N) (h2 : 0 ≤ M 176 2 ∧ M 176 2 < 4) : N 187 = M 187 ∧ N 188 = M 188 ∧ ∃ x : Int, v = some (.inl x) := by
  rcases h with ⟨_, h, hk⟩ | ⟨_, h, _, _, hd, _⟩
  · exact ⟨hk.1 187 (by omega), hk.1 188 (by omega), _, h⟩
  · exact ⟨hd 187 (by omega) (by decide) (by omega), hd 188 (by omega) (by decide) (by omega), _, h⟩
theorem bAct {G : zG} {y y' : MethodName} {Y Y' : zY} {av : List zV} {M : zM} {σ τ : zS} {b r : Int} (h : zC M) (hσ : M 188 = σ)
    (hc : zCall G y Y (.inr (some 175) :: av) M (fun v M' => zActP M σ b r τ v M'))
    (hm : ∀ N : zM, (0 ≤ N 187 3 ∧ N 187 3 ≤ 4) → zCall G y' Y' (.inr (some 187) :: av) (zt N σ) (fun v M' => (b < 0 ∧ v = some (.inl b) ∧ M' = zt N σ) ∨ (b = 0 ∧ v = some (.inl r) ∧ zDone N σ τ M'))) (hB : b = 0 → zB τ ∧ zX τ) : zPair G y Y y' Y' av M := by
  refine ⟨_, hc, fun v M1 q => ?_⟩
  obtain ⟨e7, e8, x, rfl⟩ := q.m h.2.1.1
  have hn := hm M1 (by rw [e7]; exact h.2.1.2.2.1)
  have ez : zt M1 σ = M1 := by rw [← hσ, ← e8]; exact zt_self M1
  refine ⟨x, rfl, _, ez ▸ hn, fun w M2 q2 => ?_⟩
  have := zC.act h hσ.symm q (w := w) (M2 := M2) (by rw [ez]; exact q2) hB
  exact ⟨this.1.symm, this.2⟩
section ZA
variable {G : zG} {M : zM}
theorem zC.p {M : zM} (h : zC M) : zB (M 188) ∧ zX (M 188) ∧ zRel M 0 (M 188) ∧ (0 ≤ M 176 1 ∧ M 176 1 ≤ 4) ∧ (0 ≤ M 176 2 ∧ M 176 2 < 4) ∧ (0 ≤ M 187 3 ∧ M 187 3 ≤ 4) := ⟨h.1.2.1, h.1.2.2, h.1.1, by rw [h.2.1.2.1]; exact h.2.1.2.2.1, h.2.1.1, h.2.1.2.2.1⟩
theorem b_setSnail {lane slime : Int} (hl : -2147483648 ≤ lane ∧ lane < 2147483648) (hs : -2147483648 ≤ slime ∧ slime < 2147483648) (h : zC M) : zPair G yX4_setSnail YX4_setSnail yX5_setSnail YX5_setSnail [.inl lane, .inl slime] M := by
  obtain ⟨hB, hX, hR, h1, h2, h3⟩ := h.p
  have hs9 := hB.1.1.1
  unfold zIs at hs9
  exact bAct h rfl (vX4_setSnail hl hs hR hB hX h1 h2) (fun N hp => vX5_setSnail hl hs hB.1 (by have := hB.2.1; omega) hp) (fun e => ⟨(zB_eff hB (kd := 115) (a := lane) (b := slime) (c := 0) (by unfold sBarK; rw [if_pos rfl]; exact e)).1, zX_come hX (by have := hB.2.1; omega) lane slime⟩)
theorem b_setFrost {lane row f : Int} (hl : -2147483648 ≤ lane ∧ lane < 2147483648) (hr : -2147483648 ≤ row ∧ row < 2147483648) (hf : -2147483648 ≤ f ∧ f < 2147483648) (h : zC M) : zPair G yX4_setFrost YX4_setFrost yX5_setFrost YX5_setFrost [.inl lane, .inl row, .inl f] M := by
  obtain ⟨hB, hX, hR, h1, h2, h3⟩ := h.p
  have hs9 := hB.1.1.1
  unfold zIs at hs9
  refine bAct h rfl (vX4_setFrost hl hr hf hR hB hX h1 h2) (fun N hp => ?_) (fun e => ?_)
  · by_cases e : sBarF (M 188) lane row f = 0
    · rw [if_pos e]; exact vX5_setFrost hl hr hf hB.1 hp
    · have q := vX5_setFrost (G := G) (M := N) (σ := M 188) hl hr hf hB.1 hp
      simp only [e, false_and, or_false] at q ⊢
      exact q
  · have e2 := sBarF_0 e
    exact ⟨(zB_eff hB (kd := 102) (a := lane) (b := row) (c := f) (by unfold sBarK; rw [if_neg (by decide), if_pos rfl]; exact e)).1, zX_fz hX (by omega) (by omega)⟩
theorem b_set {w x : Int} (hw : -2147483648 ≤ w ∧ w < 2147483648) (hx : -2147483648 ≤ x ∧ x < 2147483648) (h : zC M) : zPair G yX4_set YX4_set yX5_set YX5_set [.inl w, .inl x] M := by
  obtain ⟨hB, hX, hR, h1, h2, h3⟩ := h.p
  have hs9 := hB.1.1.1
  unfold zIs at hs9
  refine bAct h rfl (vX4_set hw hx hR hB hX h1 h2) (fun N hp => ?_) (fun e => ?_)
  · by_cases e : sBarSet (M 188) w x = 0
    · rw [if_pos e]; exact vX5_set hw hx hB.1 hp
    · have q := vX5_set (G := G) (M := N) (σ := M 188) hw hx hB.1 hp
      simp only [e, false_and, or_false] at q ⊢
      exact q
  · have e2 : (0 ≤ w ∧ w ≤ 3) ∧ ((if w = 0 then 0 else 1) ≤ x ∧ x ≤ sMost w) := by
      unfold sBarSet at e
      by_cases q : 0 ≤ w ∧ w ≤ 3
      · rw [if_neg (fun k => k q)] at e
        by_cases q2 : (if w = 0 then 0 else 1) ≤ x ∧ x ≤ sMost w
        · exact ⟨q, q2⟩
        · rw [if_pos q2] at e; exact absurd e (by decide)
      · rw [if_pos q] at e; exact absurd e (by decide)
    have hI2 := zI_set hB.1.1 e2.1 e2.2
    have hZ2 : zZ (zu (M 188) (531 + w) x) := fun c q1 q2 q3 => by
      rw [zu_ne (by omega)] at q3 ⊢
      exact hB.1.2.2 c q1 q2 q3
    refine ⟨⟨zA_dry hI2 hZ2, ?_, ?_⟩, zX_set hX (by omega) (by omega) e2.1⟩
    · rw [sDry_o _ (by omega), zu_ne (by omega)]; exact hB.2.1
    · rw [sDry_o _ (by omega), zu_ne (by omega)]; exact hB.2.2
theorem b_pass {t : Int} (ht : -2147483648 ≤ t ∧ t < 2147483648) (h : zC M) : zPair G yX4_pass YX4_pass yX5_pass YX5_pass [.inl t] M := by
  obtain ⟨hB, hX, hR, h1, h2, h3⟩ := h.p
  refine bAct h rfl (vX4_pass ht hR hB hX h1 h2) (fun N hp => ?_) (fun e => ?_)
  · by_cases e : sBarT (M 188) t = 0
    · rw [if_pos e]; exact vX5_pass ht hB.1 hB.2.2 hp
    · have q := vX5_pass (G := G) (M := N) (σ := M 188) ht hB.1 hB.2.2 hp
      simp only [e, false_and, or_false] at q ⊢
      exact q
  · have e2 := sBarT_0 e
    exact ⟨(zB_eff hB (kd := 46) (a := t) (b := 0) (c := 0) (by unfold sBarK; rw [if_neg (by decide), if_neg (by decide)]; exact e)).1, zX_ts hB.1 hX (by omega)⟩
end ZA
