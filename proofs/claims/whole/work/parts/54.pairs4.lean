section ZE
variable {G : zG} {M : zM}
theorem b_keep (h : zC M) : zPair G yX4_keep YX4_keep yX5_keep YX5_keep [] M := by
  refine ⟨_, vX4_keep h.p.2.2.1 h.p.1.1.1, fun v M1 q => ?_⟩
  obtain ⟨rfl, q1, q2, q3, q4⟩ := q
  obtain ⟨h1, h2, h3, h4, h5⟩ := h
  have e8 : M1 188 = M 188 := q2 188 (by omega) (by decide)
  have hm := vX5_keep (G := G) (M := M1) (σ := M1 188)
  rw [zt_self, e8] at hm
  refine ⟨_, rfl, _, hm, fun w M2 p => ?_⟩
  obtain ⟨rfl, K, rfl, k1, k2, k3, k4⟩ := p
  have e : ∀ a : Int, (a < 50 ∨ 75 ≤ a) → a ≠ 175 → a ≠ 187 → a ≠ 191 → zt K (M 188) a = M a := fun a p1 p2 p3 p4 => by
    by_cases q : a = 188
    · subst q; exact zt_s _ _
    · rw [zt_o _ _ q, k1 a p4 p3]; exact q2 a p1 p2
  have e7 : ∀ j : Int, j ≠ 5 → zt K (M 188) 187 j = M 187 j := fun j q => by rw [zt_o _ _ (by decide), k2 j q, q2 187 (by omega) (by decide)]
  have e75 : zt K (M 188) 187 5 = 1 := by rw [zt_o _ _ (by decide)]; exact k3
  have e5 : zt K (M 188) 175 = M1 175 := by rw [zt_o _ _ (by decide)]; exact k1 175 (by decide) (by decide)
  refine ⟨rfl, ?_, h2.fr (fun a ha => e a (by omega) (by omega) (by omega) (by omega)) (e7 3 (by decide)), ⟨by rw [e5, e75]; exact q3, Or.inr e75, fun _ => ?_⟩, h4.fr (e 179 (by omega) (by decide) (by decide) (by decide)) (e 192 (by omega) (by decide) (by decide) (by decide)) (by rw [e 178 (by omega) (by decide) (by decide) (by decide)]) (e7 7 (by decide)), h5.fr (by rw [e5]; exact q4 7 (by decide)) (by rw [e5]; exact q4 8 (by decide)) (fun j p1 p2 => e7 j (by omega))⟩
  · rw [e 188 (by omega) (by decide) (by decide) (by decide)]
    exact h1.mv (fun a p1 p2 => e a (by omega) (by omega) (by omega) (by omega))
  · have hz : zSees (zt K (M 188)) 50 (M 188) := ⟨q1.mv (fun a p1 p2 => by rw [zt_o _ _ (by omega), k1 a (by omega) (by omega)]), h1.2⟩
    refine hz.cg (fun j p1 p2 => ?_)
    rw [zt_o _ _ (by decide)]
    exact k4 j p1 p2
theorem b_undo (h : zC M) : zPair G yX4_undo YX4_undo yX5_undo YX5_undo [] M := by
  obtain ⟨h1, h2, h3, h4, h5⟩ := h
  obtain ⟨g1, g2, g3, g4⟩ := id h2
  have hT : M 176 1 ≠ 0 → zSees M (75 + 25 * ((M 176 2 + 3) % 4)) (fun j => M 190 (538 * (M 187 3 - 1) + j)) := fun q => by
    have := g4 (M 187 3 - 1) (by omega) (by omega)
    rw [show M 176 2 + 4 - M 187 3 + (M 187 3 - 1) = M 176 2 + 3 by omega] at this
    exact this
  refine ⟨_, vX4_undo (τ := fun j => M 190 (538 * (M 187 3 - 1) + j)) (fun q => ⟨(hT q).1, (hT q).2.1.1.1⟩) (by omega) g1, fun v M1 q => ?_⟩
  rcases q with ⟨a1, rfl, rfl⟩ | ⟨a1, rfl, q1, q2, q3, q4⟩
  · have hm := vX5_undo (G := G) (M := M1) (σ := M1 188) g3
    rw [zt_self] at hm
    refine ⟨_, rfl, _, hm, fun w M2 p => ?_⟩
    rcases p with ⟨_, rfl, rfl⟩ | ⟨b1, _⟩
    · exact ⟨rfl, h1, h2, h3, h4, h5⟩
    · exact absurd (g2 ▸ a1) b1
  · have f7 : M1 187 = M 187 := q2 187 (by decide) (by omega)
    have hm := vX5_undo (G := G) (M := M1) (σ := M1 188) (by rw [f7]; exact g3)
    rw [zt_self, f7, q2 190 (by decide) (by omega), ← g2] at hm
    refine ⟨_, rfl, _, hm, fun w M2 p => ?_⟩
    rcases p with ⟨b1, _⟩ | ⟨b1, rfl, σ', rfl, k1, k2⟩
    · exact absurd b1 a1
    · have e : ∀ a : Int, 25 ≤ a → a ≠ 176 → a ≠ 187 → a ≠ 188 → zt (zm_up M1 187 3 (M 176 1 - 1)) σ' a = M a := fun a p1 p2 p3 p4 => by
        rw [zt_o _ _ p4, zm_up_off p3]; exact q2 a p2 p1
      have e7 : ∀ j : Int, j ≠ 3 → zt (zm_up M1 187 3 (M 176 1 - 1)) σ' 187 j = M 187 j := fun j q => by rw [zt_o _ _ (by decide), zm_up_ne q, f7]
      have e73 : zt (zm_up M1 187 3 (M 176 1 - 1)) σ' 187 3 = M 176 1 - 1 := by rw [zt_o _ _ (by decide), zm_up_at]
      have e6 : zt (zm_up M1 187 3 (M 176 1 - 1)) σ' 176 = M1 176 := by rw [zt_o _ _ (by decide), zm_up_off (by decide)]
      refine ⟨rfl, ?_, ⟨by rw [e6, q4]; omega, by rw [e6, q3, e73], by rw [e73]; omega, fun i p1 p2 => ?_⟩, h3.fr (fun a ha => e a (by omega) (by omega) (by omega) (by omega)) (e7 5 (by decide)) (by rw [e 175 (by omega) (by decide) (by decide) (by decide)]), h4.fr (e 179 (by omega) (by decide) (by decide) (by decide)) (e 192 (by omega) (by decide) (by decide) (by decide)) (by rw [e 178 (by omega) (by decide) (by decide) (by decide)]) (e7 7 (by decide)), h5.fr (by rw [e 175 (by omega) (by decide) (by decide) (by decide)]) (by rw [e 175 (by omega) (by decide) (by decide) (by decide)]) (fun j p1 p2 => e7 j (by omega))⟩
      · rw [zt_s]
        have hz : zSees (zt (zm_up M1 187 3 (M 176 1 - 1)) σ') 0 (fun j => M 190 (538 * (M 187 3 - 1) + j)) := ⟨q1.mv (fun a p1 p2 => by rw [zt_o _ _ (by omega), zm_up_off (by omega)]), (hT a1).2⟩
        refine hz.cg (fun j p1 p2 => ?_)
        rw [← g2]
        exact k1 j p1 p2
      · rw [e73] at p2 ⊢
        rw [e6, q4, e 190 (by omega) (by decide) (by decide) (by decide)]
        have hz := g4 i p1 (by omega)
        rw [show (M 176 2 + 4 - M 187 3 + i) % 4 = ((M 176 2 + 3) % 4 + 4 - (M 176 1 - 1) + i) % 4 by omega] at hz
        exact hz.mv (fun a p3 p4 => e a (by omega) (by omega) (by omega) (by omega))
theorem zDid.cg {M N : zM} {σ τ τ' : zS} (h : zDid M σ τ N) (hI : zI τ) (he : ∀ j : Int, 0 ≤ j → j < 538 → τ' j = τ j) : zDid M σ τ' N := ⟨h.1.cg hI he, h.2⟩
theorem b_restore (h : zC M) : zPair G yX4_restore YX4_restore yX5_restore YX5_restore [] M := by
  have hp := h.p
  have h3 := h.2.2.1
  have hS : M 175 3 ≠ 0 → zSees M 50 (M 191) := fun q => h3.2.2 (by have := h3.1; have := h3.2.1; omega)
  refine ⟨_, vX4_restore (τ := M 191) (by rw [h3.1]; exact h3.2.1) hp.2.2.1 hp.1.1.1 (fun q => ⟨(hS q).1, (hS q).2.1.1.1, (hS q).2.1.2.2⟩) hp.2.2.2.1 hp.2.2.2.2.1, fun v M1 q => ?_⟩
  rcases q with ⟨a1, rfl, rfl⟩ | ⟨a1, rfl, hd⟩
  · have hm := vX5_restore (G := G) (M := M1) (σ := M1 188) hp.2.2.2.2.2 h3.2.1
    rw [zt_self] at hm
    refine ⟨_, rfl, _, hm, fun w M2 p => ?_⟩
    rcases p with ⟨_, rfl, rfl⟩ | ⟨b1, _⟩
    · exact ⟨rfl, h⟩
    · exact absurd (h3.1 ▸ a1) b1
  · have f : ∀ a : Int, 187 ≤ a → M1 a = M a := fun a p1 => hd.2.2.1 a (by omega) (by omega) (by have := hp.2.2.2.2.1; omega)
    have hm := vX5_restore (G := G) (M := M1) (σ := M1 188) (by rw [f 187 (by omega)]; exact hp.2.2.2.2.2) (by rw [f 187 (by omega)]; exact h3.2.1)
    rw [zt_self, f 187 (by omega), f 188 (by omega)] at hm
    refine ⟨_, rfl, _, hm, fun w M2 p => ?_⟩
    rcases p with ⟨b1, _⟩ | ⟨b1, N, σ', rfl, rfl, hr, k1, k2⟩
    · exact absurd (h3.1.trans b1) a1
    · have e91 : N 191 = M 191 := by rw [(zRec_off hr).1 191 (by decide) (by decide)]; exact f 191 (by omega)
      have he : ∀ j : Int, 0 ≤ j → j < 538 → σ' j = M 191 j := fun j p1 p2 => by rw [k1 j p1 p2, e91]
      have hz := (hS a1).2
      refine ⟨by rw [he 536 (by decide) (by decide)], ?_⟩
      exact h.did (hd.cg hz.1.1.1 he) (fun _ _ _ _ => rfl) (fun _ _ => rfl) hr (zB_cg hz.1 he) (zX_cg hz.2 hz.1 he)
end ZE
