theorem zRecA.row {N N' : zM} {σ : zS} (h : zRecA N σ N') : (∀ a : Int, a ≠ 190 → a ≠ 187 → N' a = N a) ∧ (∀ j : Int, j ≠ 3 → N' 187 j = N 187 j) := ⟨h.1, h.2.1⟩
/-- the history keeps telling the same when both put the state in -/
theorem zHist.rec {M M1 N : zM} {σ : zS} (hH : zHist M) (hS : zB σ ∧ zX σ) (hR : zRel M1 (75 + 25 * M 176 2) σ)
    (ho : ∀ a : Int, ((75 ≤ a ∧ a < 175) ∨ 187 ≤ a) → (a < 75 + 25 * M 176 2 ∨ 100 + 25 * M 176 2 ≤ a) → M1 a = M a) (e1 : M1 176 1 = (if M 176 1 = 4 then 4 else M 176 1 + 1)) (e2 : M1 176 2 = (M 176 2 + 1) % 4)
    (hr : zRec M1 σ N) : zHist N := by
  obtain ⟨h1, h2, h3, h4⟩ := hH
  have e7 : M1 187 = M 187 := ho 187 (by omega) (by omega)
  have e9 : M1 190 = M 190 := ho 190 (by omega) (by omega)
  have hoff := zRec_off hr
  have n6 : N 176 = M1 176 := hoff.1 176 (by omega) (by omega)
  have np : ∀ a : Int, 75 ≤ a → a < 175 → N a = M1 a := fun a q1 q2 => hoff.1 a (by omega) (by omega)
  unfold zRec at hr
  rw [e7] at hr
  by_cases h44 : M 187 3 = 4
  · rw [if_pos h44] at hr
    obtain ⟨K, k1, k2, k3, k4, r1, r2, r3, r4, r5⟩ := hr
    rw [k3] at r3 r4 r5
    unfold zHist
    rw [n6, e1, e2, if_pos (by omega), r3]
    refine ⟨by omega, by omega, by omega, fun i q1 q2 => ?_⟩
    by_cases hi : i = 3
    · subst hi
      rw [show ((M 176 2 + 1) % 4 + 4 - (3 + 1) + 3) % 4 = M 176 2 by omega]
      have hz : zSees N (75 + 25 * M 176 2) σ := ⟨hR.mv (fun a q3 q4 => np a (by omega) (by omega)), hS⟩
      exact hz.cg (fun j q3 q4 => r5 j q3 q4)
    · have hz := h4 (i + 1) (by omega) (by omega)
      rw [show (M 176 2 + 4 - M 187 3 + (i + 1)) % 4 = ((M 176 2 + 1) % 4 + 4 - (3 + 1) + i) % 4 by omega] at hz
      have hp : (((M 176 2 + 1) % 4 + 4 - (3 + 1) + i) % 4 < M 176 2 ∨ M 176 2 < ((M 176 2 + 1) % 4 + 4 - (3 + 1) + i) % 4) ∧ 0 ≤ ((M 176 2 + 1) % 4 + 4 - (3 + 1) + i) % 4 ∧ ((M 176 2 + 1) % 4 + 4 - (3 + 1) + i) % 4 < 4 := by omega
      refine (hz.mv (fun a q3 q4 => (np a (by omega) (by omega)).trans (ho a (by omega) (by omega)))).cg (fun j q3 q4 => ?_)
      show N 190 (538 * i + j) = M 190 (538 * (i + 1) + j)
      rw [r4 (538 * i + j) (by omega), k4 (538 * i + j) (by omega) (by omega), e9, show 538 + (538 * i + j) = 538 * (i + 1) + j by omega]
  · rw [if_neg h44] at hr
    obtain ⟨r1, r2, r3, r4, r5⟩ := hr
    rw [e7] at r3 r4 r5
    rw [e9] at r4
    unfold zHist
    rw [n6, e1, e2, if_neg (by omega), r3]
    refine ⟨by omega, by omega, by omega, fun i q1 q2 => ?_⟩
    by_cases hi : i = M 187 3
    · rw [show ((M 176 2 + 1) % 4 + 4 - (M 187 3 + 1) + i) % 4 = M 176 2 by omega]
      have hz : zSees N (75 + 25 * M 176 2) σ := ⟨hR.mv (fun a q3 q4 => np a (by omega) (by omega)), hS⟩
      rw [hi]
      exact hz.cg (fun j q3 q4 => r5 j q3 q4)
    · have hz := h4 i (by omega) (by omega)
      rw [show (M 176 2 + 4 - M 187 3 + i) % 4 = ((M 176 2 + 1) % 4 + 4 - (M 187 3 + 1) + i) % 4 by omega] at hz
      have hp : (((M 176 2 + 1) % 4 + 4 - (M 187 3 + 1) + i) % 4 < M 176 2 ∨ M 176 2 < ((M 176 2 + 1) % 4 + 4 - (M 187 3 + 1) + i) % 4) ∧ 0 ≤ ((M 176 2 + 1) % 4 + 4 - (M 187 3 + 1) + i) % 4 ∧ ((M 176 2 + 1) % 4 + 4 - (M 187 3 + 1) + i) % 4 < 4 := by omega
      refine (hz.mv (fun a q3 q4 => (np a (by omega) (by omega)).trans (ho a (by omega) (by omega)))).cg (fun j q3 q4 => ?_)
      show N 190 (538 * i + j) = M 190 (538 * i + j)
      exact r4 (538 * i + j) (by omega)
