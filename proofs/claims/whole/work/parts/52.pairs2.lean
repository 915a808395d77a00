theorem bAct2 {G : zG} {y y' : MethodName} {Y Y' : zY} {av : List zV} {M : zM} {σ τ : zS} {b r : Int} (h : zC M) (hσ : M 188 = σ)
    (hc : zCall G y Y (.inr (some 175) :: av) M (fun v M' => zActP M σ b r τ v M'))
    (hm : ∀ N : zM, (0 ≤ N 187 3 ∧ N 187 3 ≤ 4) → ∃ Q', zCall G y' Y' (.inr (some 187) :: av) (zt N σ) Q' ∧ ∀ v M', Q' v M' → (b < 0 ∧ v = some (.inl b) ∧ M' = zt N σ) ∨ (b = 0 ∧ v = some (.inl r) ∧ zDone N σ τ M')) (hB : b = 0 → zB τ ∧ zX τ) : zPair G y Y y' Y' av M := by
  refine ⟨_, hc, fun v M1 q => ?_⟩
  obtain ⟨e7, e8, x, rfl⟩ := q.m h.2.1.1
  obtain ⟨Q', hn, hq⟩ := hm M1 (by rw [e7]; exact h.2.1.2.2.1)
  have ez : zt M1 σ = M1 := by rw [← hσ, ← e8]; exact zt_self M1
  refine ⟨x, rfl, Q', by rw [← ez]; exact hn, fun w M2 q2 => ?_⟩
  have := zC.act h hσ.symm q (w := w) (M2 := M2) (hq w M2 q2) hB
  exact ⟨this.1.symm, this.2⟩
theorem bTell {G : zG} {y y' : MethodName} {Y Y' : zY} {av : List zV} {M : zM} {X : Int} (h : zC M) (hc : zCall G y Y (.inr (some 175) :: av) M (fun v M' => M = M' ∧ v = some (.inl X))) (hm : zCall G y' Y' (.inr (some 187) :: av) (zt M (M 188)) (fun v M' => zt M (M 188) = M' ∧ v = some (.inl X))) : zPair G y Y y' Y' av M := by
  refine ⟨_, hc, fun v M1 q => ?_⟩
  obtain ⟨rfl, rfl⟩ := q
  rw [zt_self] at hm
  exact ⟨X, rfl, _, hm, fun w M2 q2 => ⟨q2.2, q2.1 ▸ h⟩⟩
theorem bTellK {G : zG} {y y' : MethodName} {Y Y' : zY} {av : List zV} {M : zM} {X : Int} (h : zC M) (hc : zCall G y Y (.inr (some 175) :: av) M (fun v M' => v = some (.inl X) ∧ zKp M M')) (hm : ∀ N : zM, ∃ Q', zCall G y' Y' (.inr (some 187) :: av) (zt N (M 188)) Q' ∧ ∀ v M', Q' v M' → v = some (.inl X) ∧ ∃ K : zM, M' = zt K (M 188) ∧ ∀ a : Int, a ≠ 189 → a ≠ 193 → a ≠ 194 → K a = N a) : zPair G y Y y' Y' av M := by
  refine ⟨_, hc, fun v M1 q => ?_⟩
  obtain ⟨rfl, hk⟩ := q
  have e8 : M1 188 = M 188 := hk.1 188 (by omega)
  obtain ⟨Q', hn, hq⟩ := hm M1
  have ez : zt M1 (M 188) = M1 := by rw [← e8]; exact zt_self M1
  refine ⟨X, rfl, Q', by rw [← ez]; exact hn, fun w M2 q2 => ?_⟩
  obtain ⟨rfl, K, rfl, hK⟩ := hq w M2 q2
  refine ⟨rfl, ?_⟩
  have h1 := h.fr (zFr.kp hk)
  rw [← e8]
  exact h1.fr (zFr.ztt hK)
section ZB
variable {G : zG} {M : zM}
theorem b_takeOff {k : Int} (hk : -2147483648 ≤ k ∧ k < 2147483648) (h : zC M) : zPair G yX4_takeOff YX4_takeOff yX5_takeOff YX5_takeOff [.inl k] M := by
  obtain ⟨hB, hX, hR, h1, h2, h3⟩ := h.p
  have hs9 := hB.1.1.1
  unfold zIs at hs9
  refine bAct2 h rfl (vX4_takeOff hk hR hB hX h1 h2) (fun N hp => ⟨_, vX5_takeOff hk hB.1 hp, fun v M' q => ?_⟩) (fun e => ?_)
  · rcases q with ⟨a1, a2, a3⟩ | ⟨a1, a4, a2, a3⟩ | ⟨a1, a4, a2, a3⟩
    · have eb : sBarO (M 188) k = -1 := by unfold sBarO; rw [if_pos a1]
      exact Or.inl ⟨by rw [eb]; decide, by rw [eb]; exact a2, a3⟩
    · have eb : sBarO (M 188) k = -4 := by unfold sBarO; rw [if_neg (fun q => q a1), if_pos a4]
      exact Or.inl ⟨by rw [eb]; decide, by rw [eb]; exact a2, a3⟩
    · have eb : sBarO (M 188) k = 0 := by unfold sBarO; rw [if_neg (fun q => q a1), if_neg (fun q => q a4)]
      exact Or.inr ⟨eb, by rw [if_pos eb]; exact a2, a3⟩
  · have e2 : (0 ≤ k ∧ k < M 188 535) ∧ M 188 (360 + 10 * k + 3) = 0 := by
      unfold sBarO at e
      by_cases q : 0 ≤ k ∧ k < M 188 535
      · rw [if_neg (fun z => z q)] at e
        by_cases q2 : M 188 (360 + 10 * k + 3) = 0
        · exact ⟨q, q2⟩
        · rw [if_pos q2] at e; exact absurd e (by decide)
      · rw [if_pos q] at e; exact absurd e (by decide)
    refine ⟨?_, zX_off hX (by omega) (by omega) e2.1 e2.2⟩
    have o : ∀ j : Int, j ≠ 360 + 10 * k + 3 → zu (M 188) (360 + 10 * k + 3) 2 j = M 188 j := fun j q => zu_ne q
    obtain ⟨⟨⟨i1, i2, i3⟩, hJ, hZ⟩, h8, h6⟩ := hB
    refine ⟨⟨⟨?_, fun c q1 q2 => ?_, fun a q1 q2 => ?_⟩, fun c q1 q2 => ?_, fun c q1 q2 q3 => ?_⟩, ?_, ?_⟩
    · unfold zIs at i1 ⊢
      rw [o 531 (by omega), o 532 (by omega), o 533 (by omega), o 534 (by omega), o 535 (by omega)]
      exact i1
    · have := i2 c q1 q2
      unfold zIc at this ⊢
      rw [o c (by omega), o (120 + c) (by omega), o (240 + c) (by omega)]
      exact this
    · have := i3 a q1 q2
      unfold zIk at this ⊢
      rw [o (360 + 10 * a + 0) (by omega), o (360 + 10 * a + 1) (by omega), o (360 + 10 * a + 2) (by omega), o (360 + 10 * a + 8) (by omega), o (360 + 10 * a + 9) (by omega)]
      by_cases ha : a = k
      · subst ha
        rw [zu_at]
        omega
      · rw [o (360 + 10 * a + 3) (by omega)]
        exact this
    · rw [o (240 + c) (by omega), o 531 (by omega)]
      exact hJ c q1 q2
    · rw [o (120 + c) (by omega)] at q3
      rw [o (240 + c) (by omega)]
      exact hZ c q1 q2 q3
    · rw [o 535 (by omega)]; exact h8
    · rw [o 536 (by omega)]; exact h6
theorem b_snail {k w : Int} (hk : -2147483648 ≤ k ∧ k < 2147483648) (hw : -2147483648 ≤ w ∧ w < 2147483648) (h : zC M) : zPair G yX4_snail YX4_snail yX5_snail YX5_snail [.inl k, .inl w] M := by
  obtain ⟨hB, hX, hR, h1, h2, h3⟩ := h.p
  exact bTell h (vX4_snail hk hw hR hB.1.1) (vX5_snail hk hw hB.1 (fun k q1 q2 => by have := hX.2.2.2 k q1 q2; omega))
theorem b_cell {lane row w : Int} (hl : -2147483648 ≤ lane ∧ lane < 2147483648) (hr : -2147483648 ≤ row ∧ row < 2147483648) (hw : -2147483648 ≤ w ∧ w < 2147483648) (h : zC M) : zPair G yX4_cell YX4_cell yX5_cell YX5_cell [.inl lane, .inl row, .inl w] M := bTell h (vX4_cell hl hr hw h.p.2.2.1 h.p.1.1.1) (vX5_cell hl hr hw h.p.1.1)
theorem b_cost {k s : Int} (hk : -2147483648 ≤ k ∧ k < 2147483648) (hs : -2147483648 ≤ s ∧ s < 2147483648) (h : zC M) : zPair G yX4_cost YX4_cost yX5_cost YX5_cost [.inl k, .inl s] M := bTell h (vX4_cost hk hs h.p.2.2.1 h.p.1.1.1) (vX5_cost hk hs h.p.1.1)
theorem b_does {k : Int} (hk : -2147483648 ≤ k ∧ k < 2147483648) (h : zC M) : zPair G yX4_does YX4_does yX5_does YX5_does [.inl k] M := bTell h (vX4_does hk h.p.2.2.1 h.p.1.1.1) (vX5_does hk h.p.1.1)
theorem b_reason {k lane row : Int} (hk : -2147483648 ≤ k ∧ k < 2147483648) (hl : -2147483648 ≤ lane ∧ lane < 2147483648) (hr : -2147483648 ≤ row ∧ row < 2147483648) (h : zC M) : zPair G yX4_reason YX4_reason yX5_reason YX5_reason [.inl k, .inl lane, .inl row] M := bTell h (vX4_reason hk hl hr h.p.2.2.1 h.p.1.1.1) (vX5_reason hk hl hr h.p.1.1)
theorem b_leader (h : zC M) : zPair G yX4_leader YX4_leader yX5_leader YX5_leader [] M := bTell h (vX4_leader h.p.2.2.1 h.p.1.1.1) (vX5_leader h.p.1.1)
theorem b_owes {k o : Int} (hk : -2147483648 ≤ k ∧ k < 2147483648) (ho : -2147483648 ≤ o ∧ o < 2147483648) (h : zC M) : zPair G yX4_owes YX4_owes yX5_owes YX5_owes [.inl k, .inl o] M := bTell h (vX4_owes hk ho h.p.2.2.1 h.p.1.1.1) (vX5_owes hk ho h.p.1.1)
theorem b_count {w : Int} (hw : -2147483648 ≤ w ∧ w < 2147483648) (h : zC M) : zPair G yX4_count YX4_count yX5_count YX5_count [.inl w] M := by
  have hc := vX4_count (G := G) hw h.p.2.2.1 h.p.1.1.1
  rw [h.2.1.2.1, h.2.2.2.1.1] at hc
  exact bTell h hc (vX5_count hw h.p.1.1)
theorem b_endsIn {k : Int} (hk : -2147483648 ≤ k ∧ k < 2147483648) (h : zC M) : zPair G yX4_endsIn YX4_endsIn yX5_endsIn YX5_endsIn [.inl k] M := bTellK h (vX4_endsIn hk h.p.2.2.1 h.p.1 h.p.2.1) (fun N => ⟨_, vX5_endsIn hk h.p.1.1 h.p.1.2.2, fun v M' q => ⟨q.1, q.2.choose, q.2.choose_spec.1, fun a q1 _ _ => q.2.choose_spec.2 a q1⟩⟩)
theorem b_bestLane {s w : Int} (hs : -2147483648 ≤ s ∧ s < 2147483648) (hw : -2147483648 ≤ w ∧ w < 2147483648) (h : zC M) : zPair G yX4_bestLane YX4_bestLane yX5_bestLane YX5_bestLane [.inl s, .inl w] M := bTellK h (vX4_bestLane hs hw h.p.2.2.1 h.p.1 h.p.2.1) (fun N => ⟨_, vX5_bestLane hs hw h.p.1.1 h.p.1.2.2 h.p.1.2.1, fun v M' q => ⟨q.1, q.2.choose, q.2.choose_spec.1, fun a q1 _ _ => q.2.choose_spec.2 a q1⟩⟩)
theorem b_wayUp {lane row w : Int} (hl : -2147483648 ≤ lane ∧ lane < 2147483648) (hr : -2147483648 ≤ row ∧ row < 2147483648) (hw : -2147483648 ≤ w ∧ w < 2147483648) (h : zC M) : zPair G yX4_wayUp YX4_wayUp yX5_wayUp YX5_wayUp [.inl lane, .inl row, .inl w] M := bTellK h (vX4_wayUp hl hr hw h.p.2.2.1 h.p.1.1.1) (fun N => ⟨_, vX5_wayUp hl hr hw h.p.1.1, fun v M' q => ⟨q.1, q.2.choose, q.2.choose_spec.1, fun a _ q1 q2 => q.2.choose_spec.2 a q1 q2⟩⟩)
end ZB
