theorem zRecA.row {N N' : zM} {σ : zS} (h : zRecA N σ N') : (∀ a : Int, a ≠ 190 → a ≠ 187 → N' a = N a) ∧ (∀ j : Int, j ≠ 3 → N' 187 j = N 187 j) := ⟨h.1, h.2.1⟩
/-- the history keeps telling the same when both put the state in -/
theorem zHist.rec {M M1 N : zM} {σ : zS} (hH : zHist M) (hS : zB σ ∧ zX σ) (hR : zRel M1 (75 + 25 * M 176 2) σ)
    (e7 : M1 187 3 = M 187 3) (e9 : M1 190 = M 190) (ho : ∀ a : Int, (75 ≤ a ∧ a < 175) → (a < 75 + 25 * M 176 2 ∨ 100 + 25 * M 176 2 ≤ a) → M1 a = M a) (e1 : M1 176 1 = (if M 176 1 = 4 then 4 else M 176 1 + 1)) (e2 : M1 176 2 = (M 176 2 + 1) % 4)
    (hr : zRec M1 σ N) : zHist N := by
  obtain ⟨h1, h2, h3, h4⟩ := hH
  have hoff := zRec_off hr
  have n6 : N 176 = M1 176 := hoff.1 176 (by omega) (by omega)
  have np : ∀ a : Int, 75 ≤ a → a < 175 → N a = M1 a := fun a q1 q2 => hoff.1 a (by omega) (by omega)
  unfold zRec at hr
  rw [e7] at hr
  by_cases h44 : M 187 3 = 4
  · rw [if_pos h44] at hr
    obtain ⟨K, k1, k2, k3, k4, r1, r2, r3, r4, r5⟩ := hr
    rw [k3] at r3 r4 r5
    unfold zHist
    rw [n6, e1, e2, if_pos (by omega), r3]
    refine ⟨by omega, by omega, by omega, fun i q1 q2 => ?_⟩
    by_cases hi : i = 3
    · subst hi
      rw [show ((M 176 2 + 1) % 4 + 4 - (3 + 1) + 3) % 4 = M 176 2 by omega]
      have hz : zSees N (75 + 25 * M 176 2) σ := ⟨hR.mv (fun a q3 q4 => np a (by omega) (by omega)), hS⟩
      exact hz.cg (fun j q3 q4 => r5 j q3 q4)
    · have hz := h4 (i + 1) (by omega) (by omega)
      rw [show (M 176 2 + 4 - M 187 3 + (i + 1)) % 4 = ((M 176 2 + 1) % 4 + 4 - (3 + 1) + i) % 4 by omega] at hz
      have hp : (((M 176 2 + 1) % 4 + 4 - (3 + 1) + i) % 4 < M 176 2 ∨ M 176 2 < ((M 176 2 + 1) % 4 + 4 - (3 + 1) + i) % 4) ∧ 0 ≤ ((M 176 2 + 1) % 4 + 4 - (3 + 1) + i) % 4 ∧ ((M 176 2 + 1) % 4 + 4 - (3 + 1) + i) % 4 < 4 := by omega
      refine (hz.mv (fun a q3 q4 => (np a (by omega) (by omega)).trans (ho a (by omega) (by omega)))).cg (fun j q3 q4 => ?_)
      show N 190 (538 * i + j) = M 190 (538 * (i + 1) + j)
      rw [r4 (538 * i + j) (by omega), k4 (538 * i + j) (by omega) (by omega), e9, show 538 + (538 * i + j) = 538 * (i + 1) + j by omega]
  · rw [if_neg h44] at hr
    obtain ⟨r1, r2, r3, r4, r5⟩ := hr
    rw [e7] at r3 r4 r5
    rw [e9] at r4
    unfold zHist
    rw [n6, e1, e2, if_neg (by omega), r3]
    refine ⟨by omega, by omega, by omega, fun i q1 q2 => ?_⟩
    by_cases hi : i = M 187 3
    · rw [show ((M 176 2 + 1) % 4 + 4 - (M 187 3 + 1) + i) % 4 = M 176 2 by omega]
      have hz : zSees N (75 + 25 * M 176 2) σ := ⟨hR.mv (fun a q3 q4 => np a (by omega) (by omega)), hS⟩
      rw [hi]
      exact hz.cg (fun j q3 q4 => r5 j q3 q4)
    · have hz := h4 i (by omega) (by omega)
      rw [show (M 176 2 + 4 - M 187 3 + i) % 4 = ((M 176 2 + 1) % 4 + 4 - (M 187 3 + 1) + i) % 4 by omega] at hz
      have hp : (((M 176 2 + 1) % 4 + 4 - (M 187 3 + 1) + i) % 4 < M 176 2 ∨ M 176 2 < ((M 176 2 + 1) % 4 + 4 - (M 187 3 + 1) + i) % 4) ∧ 0 ≤ ((M 176 2 + 1) % 4 + 4 - (M 187 3 + 1) + i) % 4 ∧ ((M 176 2 + 1) % 4 + 4 - (M 187 3 + 1) + i) % 4 < 4 := by omega
      refine (hz.mv (fun a q3 q4 => (np a (by omega) (by omega)).trans (ho a (by omega) (by omega)))).cg (fun j q3 q4 => ?_)
      show N 190 (538 * i + j) = M 190 (538 * i + j)
      exact r4 (538 * i + j) (by omega)
/-- both acted -/
theorem zC.did {M M1 M2 N : zM} {τ : zS} (h : zC M) (hd : zDid M (M 188) τ M1) (hm : ∀ a : Int, a ≠ 187 → a ≠ 188 → a ≠ 189 → M2 a = M1 a) (hm7 : ∀ j : Int, j < 11 → M2 187 j = M1 187 j) (hr : zRec M2 (M 188) N) (hB : zB τ) (hX : zX τ) : zC (zt N τ) := by
  obtain ⟨h1, h2, h3, h4, h5⟩ := h
  obtain ⟨d1, d2, d3, d4, d5, d6⟩ := hd
  have hn := h2.1
  have hoff := zRec_off hr
  have e : ∀ a : Int, a ≠ 187 → a ≠ 188 → a ≠ 189 → a ≠ 190 → zt N τ a = M1 a := fun a q1 q2 q3 q4 => by rw [zt_o N τ q2, hoff.1 a q4 q1, hm a q1 q2 q3]
  have m7 : M1 187 = M 187 := d3 187 (by omega) (by omega) (by omega)
  have e7 : ∀ j : Int, j < 11 → j ≠ 3 → zt N τ 187 j = M 187 j := fun j q1 q2 => by rw [zt_o N τ (by omega), hoff.2 j q2, hm7 j q1, m7]
  have hH : zHist N := zHist.rec (M := M) (M1 := M2) h2 h1.2 (d2.mv (fun a q1 q2 => hm a (by omega) (by omega) (by omega))) (by rw [hm7 3 (by decide), m7]) (by rw [hm 190 (by decide) (by decide) (by decide)]; exact d3 190 (by omega) (by decide) (by omega)) (fun a q1 q2 => by rw [hm a (by omega) (by omega) (by omega)]; exact d3 a (by omega) (by omega) q2) (by rw [hm 176 (by decide) (by decide) (by decide)]; exact d5) (by rw [hm 176 (by decide) (by decide) (by decide)]; exact d6) hr
  have e5 : zt N τ 175 = M 175 := by rw [e 175 (by decide) (by decide) (by decide) (by decide)]; exact d3 175 (by omega) (by decide) (by omega)
  refine ⟨⟨?_, hB, hX⟩, hH.fr (fun a ha => zt_o N τ (by omega)) (by rw [zt_o N τ (by decide)]), h3.fr (fun a ha => ?_) (e7 5 (by decide) (by decide)) (by rw [e5]), h4.fr ?_ ?_ ?_ (e7 7 (by decide) (by decide)), h5.fr (by rw [e5]) (by rw [e5]) (fun j q1 q2 => e7 j q2 (by omega))⟩
  · rw [zt_s]
    exact d1.mv (fun a q1 q2 => e a (by omega) (by omega) (by omega) (by omega))
  · rw [e a (by omega) (by omega) (by omega) (by omega)]
    exact d3 a (by omega) (by omega) (by omega)
  · rw [e 179 (by decide) (by decide) (by decide) (by decide)]
    exact d3 179 (by omega) (by decide) (by omega)
  · rw [e 192 (by decide) (by decide) (by decide) (by decide)]
    exact d3 192 (by omega) (by decide) (by omega)
  · rw [e 178 (by decide) (by decide) (by decide) (by decide)]
    exact d4
theorem zC.act {M M1 M2 : zM} {σ τ : zS} {b r : Int} {v w : Option zV} (h : zC M) (hσ : σ = M 188) (h1 : zActP M σ b r τ v M1) (h2 : (b < 0 ∧ w = some (.inl b) ∧ M2 = zt M1 σ) ∨ (b = 0 ∧ w = some (.inl r) ∧ zDone M1 σ τ M2)) (hB : b = 0 → zB τ ∧ zX τ) : v = w ∧ zC M2 := by
  subst hσ
  rcases h1 with ⟨b1, rfl, hk⟩ | ⟨rfl, rfl, hd⟩
  · rcases h2 with ⟨_, rfl, rfl⟩ | ⟨h0, _⟩
    · refine ⟨rfl, ?_⟩
      have e : M1 188 = M 188 := hk.1 188 (by omega)
      rw [← e, zt_self]
      exact h.fr (zFr.kp hk)
    · omega
  · rcases h2 with ⟨h0, _⟩ | ⟨_, rfl, N, rfl, hr⟩
    · exact absurd h0 (by decide)
    · exact ⟨rfl, h.did hd (fun _ _ _ _ => rfl) (fun _ _ => rfl) hr (hB rfl).1 (hB rfl).2⟩
