section ZD
variable {G : zG} {M : zM}
theorem b_stopped {w : Int} (hw : -2147483648 ≤ w ∧ w < 2147483648) (h : zC M) : zPair G yX4_stopped YX4_stopped yX5_stopped YX5_stopped [.inl w] M := by
  have hs := h.2.2.2.2
  unfold zStop at hs
  have hc := vX4_stopped (G := G) (M := M) hw
  have hm := vX5_stopped (G := G) (M := M) (σ := M 188) hw (by omega)
  rw [show sStopped M w = (if w = 0 then M 175 7 else if w = 1 then M 175 8 else -2) from by
    unfold sStopped
    repeat' split
    all_goals omega] at hm
  exact bTell h hc hm
theorem b_clearText (h : zC M) : zPair G yX4_clearText YX4_clearText yX5_clearText YX5_clearText [] M := by
  refine ⟨_, vX4_clearText, fun v M1 q => ?_⟩
  obtain ⟨rfl, rfl⟩ := q
  obtain ⟨h1, h2, h3, h4, h5⟩ := h
  have hm := vX5_clearText (G := G) (M := zm_up M 178 1 0) (σ := M 188)
  have ez : zt (zm_up M 178 1 0) (M 188) = zm_up M 178 1 0 := by
    have e : zm_up M 178 1 0 188 = M 188 := zm_up_off (by decide)
    rw [← e]; exact zt_self _
  rw [ez, zm_up_off (show (187 : Int) ≠ 178 by decide), ← h4.1] at hm
  refine ⟨_, rfl, _, hm, fun w M2 q2 => ?_⟩
  obtain ⟨rfl, rfl⟩ := q2
  have e : ∀ a : Int, a ≠ 178 → a ≠ 187 → zt (zm_up (zm_up M 178 1 0) 187 7 0) (M 188) a = M a := fun a q1 q2 => by
    by_cases q : a = 188
    · subst q; exact zt_s _ _
    · rw [zt_o _ _ q, zm_up_off q2, zm_up_off q1]
  have e7 : ∀ j : Int, j ≠ 7 → zt (zm_up (zm_up M 178 1 0) 187 7 0) (M 188) 187 j = M 187 j := fun j q => by rw [zt_o _ _ (by decide), zm_up_ne q, zm_up_off (by decide)]
  have e77 : zt (zm_up (zm_up M 178 1 0) 187 7 0) (M 188) 187 7 = 0 := by rw [zt_o _ _ (by decide), zm_up_at]
  refine ⟨rfl, ?_, h2.fr (fun a ha => e a (by omega) (by omega)) (e7 3 (by decide)), h3.fr (fun a ha => e a (by omega) (by omega)) (e7 5 (by decide)) (by rw [e 175 (by decide) (by decide)]), ⟨?_, ⟨?_, fun j q1 q2 => ?_⟩, fun j q1 => ?_⟩, h5.fr (by rw [e 175 (by decide) (by decide)]) (by rw [e 175 (by decide) (by decide)]) (fun j q1 q2 => e7 j (by omega))⟩
  · rw [e 188 (by decide) (by decide)]
    exact h1.mv (fun a q1 q2 => e a (by omega) (by omega))
  · rw [e77, zt_o _ _ (by decide), zm_up_off (by decide), zm_up_at]
  · rw [e77]; decide
  · rw [e77] at q2; omega
  · rw [e77] at q1
    rw [e 179 (by decide) (by decide), e 192 (by decide) (by decide)]
    exact h4.2.2 j (by have := h4.2.1.1; omega)
theorem b_type {ch : Int} (hc : 0 ≤ ch ∧ ch < 65536) (h : zC M) : zPair G yX4_type YX4_type yX5_type YX5_type [.inl ch] M := by
  have hl : 0 ≤ M 178 1 ∧ M 178 1 ≤ 60 := by rw [h.2.2.2.1.1]; exact h.2.2.2.1.2.1.1
  refine ⟨_, vX4_type hc hl, fun v M1 q => ?_⟩
  rcases q with ⟨a1, rfl, rfl⟩ | ⟨a1, rfl, rfl⟩
  · have hm := vX5_type (G := G) (M := M1) (σ := M1 188) hc (by rw [← h.2.2.2.1.1]; exact hl)
    rw [zt_self] at hm
    refine ⟨_, rfl, _, hm, fun w M2 q2 => ?_⟩
    rcases q2 with ⟨_, rfl, rfl⟩ | ⟨b1, _⟩
    · exact ⟨rfl, h⟩
    · exact absurd (h.2.2.2.1.1 ▸ a1) b1
  · obtain ⟨h1, h2, h3, h4, h5⟩ := h
    generalize hM1 : zm_up (zm_up M 179 (M 178 1) ch) 178 1 (M 178 1 + 1) = M1
    have f : ∀ a : Int, a ≠ 178 → a ≠ 179 → M1 a = M a := fun a q1 q2 => by rw [← hM1, zm_up_off q1, zm_up_off q2]
    have f7 : M1 187 = M 187 := f 187 (by decide) (by decide)
    have hm := vX5_type (G := G) (M := M1) (σ := M1 188) hc (by rw [f7, ← h4.1]; exact hl)
    rw [zt_self, f7, f 192 (by decide) (by decide), ← h4.1] at hm
    refine ⟨_, rfl, _, hm, fun w M2 q2 => ?_⟩
    rcases q2 with ⟨b1, _⟩ | ⟨b1, rfl, K, rfl, k1, k2, k3, k4, k5⟩
    · exact absurd b1 a1
    · have e : ∀ a : Int, a ≠ 178 → a ≠ 179 → a ≠ 187 → a ≠ 192 → zt K (M1 188) a = M a := fun a q1 q2 q3 q4 => by
        by_cases q : a = 188
        · subst q; rw [zt_s]; exact f 188 (by decide) (by decide)
        · rw [zt_o _ _ q, k1 a q4 q3]; exact f a q1 q2
      have e7 : ∀ j : Int, j ≠ 7 → zt K (M1 188) 187 j = M 187 j := fun j q => by rw [zt_o _ _ (by decide)]; exact k2 j q
      have e77 : zt K (M1 188) 187 7 = M 178 1 + 1 := by rw [zt_o _ _ (by decide)]; exact k3
      have e9 : ∀ j : Int, zt K (M1 188) 192 j = if j = M 178 1 then ch else M 192 j := fun j => by
        rw [zt_o _ _ (by decide)]
        by_cases q : j = M 178 1
        · rw [if_pos q, q]; exact k4
        · rw [if_neg q]; exact k5 j q
      have g9 : ∀ j : Int, zt K (M1 188) 179 j = if j = M 178 1 then ch else M 179 j := fun j => by
        rw [zt_o _ _ (by decide), k1 179 (by decide) (by decide), ← hM1, zm_up_off (by decide), zm_up_j]
      have hx := h4.2.1
      unfold zTx at hx
      have hl4 := h4.1
      refine ⟨rfl, ?_, h2.fr (fun a ha => e a (by omega) (by omega) (by omega) (by omega)) (e7 3 (by decide)), h3.fr (fun a ha => e a (by omega) (by omega) (by omega) (by omega)) (e7 5 (by decide)) (by rw [e 175 (by decide) (by decide) (by decide) (by decide)]), ⟨?_, ⟨?_, fun j q1 q2 => ?_⟩, fun j q1 => ?_⟩, h5.fr (by rw [e 175 (by decide) (by decide) (by decide) (by decide)]) (by rw [e 175 (by decide) (by decide) (by decide) (by decide)]) (fun j q1 q2 => e7 j (by omega))⟩
      · rw [e 188 (by decide) (by decide) (by decide) (by decide)]
        exact h1.mv (fun a q1 q2 => e a (by omega) (by omega) (by omega) (by omega))
      · rw [e77, zt_o _ _ (by decide), k1 178 (by decide) (by decide), ← hM1, zm_up_at]
      · rw [e77]; omega
      · rw [e77] at q2
        rw [e9]
        split
        · exact hc
        · exact hx.2 j q1 (by omega)
      · rw [e77] at q1
        rw [e9, g9]
        split
        · rfl
        · exact h4.2.2 j (by omega)
end ZD
