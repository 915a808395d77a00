/-! ===== cells, trails, snails and sums hang together ===== -/
/-- a sum from k up to m -/
def zsumF (g : Int → Int) (j n : Int) : Int := n + g j
theorem zsum_s (g : Int → Int) (m d : Int) : ∀ (n : Nat) (i a : Int), i + n = m → zfor (zsumF g) i m (a + d) = zfor (zsumF g) i m a + d
  | 0, i, a, h => by rw [zfor_end (by omega), zfor_end (by omega)]
  | n + 1, i, a, h => by
    rw [zfor_step (by omega), zfor_step (a := a) (by omega)]
    rw [show zsumF g i (a + d) = zsumF g i a + d from by unfold zsumF; omega]
    exact zsum_s g m d n (i + 1) _ (by omega)
theorem zsum_u (g g' : Int → Int) (m k d : Int) (hd : g' k = g k + d) (ho : ∀ a : Int, 0 ≤ a → a < m → a ≠ k → g' a = g a) : ∀ (n : Nat) (i a : Int), 0 ≤ i → i + n = m → zfor (zsumF g') i m a = zfor (zsumF g) i m a + if i ≤ k ∧ k < m then d else 0
  | 0, i, a, h0, h => by rw [zfor_end (by omega), zfor_end (by omega), if_neg (by omega), Int.add_zero]
  | n + 1, i, a, h0, h => by
    rw [zfor_step (by omega), zfor_step (f := zsumF g) (by omega), zsum_u g g' m k d hd ho n (i + 1) _ (by omega) (by omega)]
    by_cases hk : i = k
    · subst hk
      rw [if_neg (by omega), if_pos (by omega), Int.add_zero]
      rw [show zsumF g' i a = zsumF g i a + d from by unfold zsumF; omega]
      exact zsum_s g m d n (i + 1) _ (by omega)
    · rw [show zsumF g' i a = zsumF g i a from by unfold zsumF; rw [ho i h0 (by omega) hk]]
      by_cases h2 : i + 1 ≤ k ∧ k < m
      · rw [if_pos h2, if_pos (by omega)]
      · rw [if_neg h2, if_neg (by omega)]
theorem zsum_c (g g' : Int → Int) {m : Int} (ho : ∀ a : Int, 0 ≤ a → a < m → g' a = g a) (hm : 0 ≤ m) (x : Int) : zfor (zsumF g') 0 m x = zfor (zsumF g) 0 m x := by
  refine zfor_cg m.toNat 0 x (by omega) (fun i q1 q2 => ?_)
  funext y
  unfold zsumF
  rw [ho i q1 q2]
theorem zsum_0 (g : Int → Int) (m : Int) (ho : ∀ a : Int, 0 ≤ a → a < m → g a = 0) : ∀ (n : Nat) (i a : Int), 0 ≤ i → i + n = m → zfor (zsumF g) i m a = a
  | 0, i, a, h0, h => by rw [zfor_end (by omega)]
  | n + 1, i, a, h0, h => by
    rw [zfor_step (by omega), show zsumF g i a = a from by unfold zsumF; rw [ho i h0 (by omega)]; omega]
    exact zsum_0 g m ho n (i + 1) a (by omega) (by omega)
/-- the last one apart -/
theorem zfor_last {α : Type} {f : Int → α → α} {m : Int} : ∀ (n : Nat) (k : Int) (a : α), k + n = m → zfor f k (m + 1) a = f m (zfor f k m a)
  | 0, k, a, h => by
    rw [zfor_end (k := k) (m := m) (by omega), zfor_step (by omega), zfor_end (by omega), show k = m by omega]
  | n + 1, k, a, h => by
    rw [zfor_step (k := k) (m := m + 1) (by omega), zfor_step (k := k) (m := m) (by omega)]
    exact zfor_last n (k + 1) _ (by omega)
theorem zfind_none {P : Int → Bool} {m : Int} : ∀ (n : Nat) (k : Int), 0 ≤ k → k + n = m → (zfind P k m = -5 ↔ ∀ i : Int, k ≤ i → i < m → ¬ P i = true)
  | 0, k, h0, h => by
    rw [zfind_end (by omega)]
    exact ⟨fun _ i q1 q2 => by omega, fun _ => rfl⟩
  | n + 1, k, h0, h => by
    rw [zfind_step (by omega)]
    by_cases hk : P k = true
    · rw [if_pos hk]
      exact ⟨fun q => by omega, fun q => absurd hk (q k (by omega) (by omega))⟩
    · rw [if_neg hk, zfind_none n (k + 1) (by omega) (by omega)]
      refine ⟨fun q i q1 q2 => ?_, fun q i q1 q2 => q i (by omega) q2⟩
      by_cases e : i = k
      · rw [e]; exact hk
      · exact q i (by omega) q2
theorem zfind_some {P : Int → Bool} {m : Int} : ∀ (n : Nat) (k : Int), k + n = m → zfind P k m ≠ -5 → P (zfind P k m) = true
  | 0, k, h, hq => by
    rw [zfind_end (by omega)] at hq
    exact absurd rfl hq
  | n + 1, k, h, hq => by
    rw [zfind_step (by omega)] at hq ⊢
    by_cases hk : P k = true
    · rw [if_pos hk]; exact hk
    · rw [if_neg hk] at hq ⊢
      exact zfind_some n (k + 1) (by omega) hq
theorem sOn_no {σ : zS} (hm : 0 ≤ σ 535) {lane row : Int} (h : sOn σ lane row = -5) {k : Int} (hk : 0 ≤ k ∧ k < σ 535) : ¬ (σ (360 + 10 * k + 3) = 0 ∧ σ (360 + 10 * k + 0) = lane ∧ σ (360 + 10 * k + 1) = row) := fun q => (zfind_none (σ 535).toNat 0 (by omega) (by omega)).mp h k hk.1 hk.2 (sOnP_t q)
theorem sOn_yes {σ : zS} (hm : 0 ≤ σ 535) {lane row : Int} (h : sOn σ lane row ≠ -5) : (0 ≤ sOn σ lane row ∧ sOn σ lane row < σ 535) ∧ σ (360 + 10 * sOn σ lane row + 3) = 0 ∧ σ (360 + 10 * sOn σ lane row + 0) = lane ∧ σ (360 + 10 * sOn σ lane row + 1) = row := by
  have h1 := zfind_some (P := sOnP σ lane row) (σ 535).toNat 0 (by omega) h
  have h2 := zfind_r (sOnP σ lane row) (σ 535).toNat 0 (σ 535) (by omega)
  refine ⟨?_, of_decide_eq_true h1⟩
  rcases h2 with h2 | h2
  · exact absurd h2 h
  · exact h2
/-- what a snail owes, in all -/
def sOwG (σ : zS) (k j : Int) : Int := if j = k then 0 else σ (450 + 9 * k + j)
def sOw (σ : zS) (k : Int) : Int := zfor (zsumF (sOwG σ k)) 0 (σ 535) 0
/-- of one snail -/
def zHk (σ : zS) (k : Int) : Prop :=
  (σ (360 + 10 * k + 3) = 1 ↔ 0 < σ (360 + 10 * k + 4)) ∧ (σ (360 + 10 * k + 3) = 1 ↔ σ (360 + 10 * k + 1) = 19) ∧ σ (360 + 10 * k + 5) = σ (360 + 10 * k + 1) ∧
  (0 ≤ σ (360 + 10 * k + 6) ∧ σ (360 + 10 * k + 6) ≤ σ (360 + 10 * k + 5)) ∧ 0 ≤ σ (360 + 10 * k + 7) ∧
  ((σ (360 + 10 * k + 8) = 0 ∧ σ (360 + 10 * k + 9) = 0) ∨ (0 < σ (360 + 10 * k + 8) ∧ σ (360 + 10 * k + 8) - 1 ≠ k ∧ 0 < σ (360 + 10 * k + 9) ∧ σ (360 + 10 * k + 9) ≤ 9 ∧ σ (360 + 10 * k + 9) ≤ σ (450 + 9 * k + (σ (360 + 10 * k + 8) - 1)))) ∧
  (∀ j : Int, 0 ≤ j → j < 9 → 0 ≤ σ (450 + 9 * k + j)) ∧ sOw σ k = σ (360 + 10 * k + 6)
/-- no two on one cell -/
def zHd (σ : zS) : Prop := ∀ a b : Int, 0 ≤ a → a < σ 535 → 0 ≤ b → b < σ 535 → a ≠ b → σ (360 + 10 * a + 3) = 0 → σ (360 + 10 * b + 3) = 0 → ¬ (σ (360 + 10 * a + 0) = σ (360 + 10 * b + 0) ∧ σ (360 + 10 * a + 1) = σ (360 + 10 * b + 1))
/-- the ranks are all from 1 on -/
def zHr (σ : zS) : Prop := (∀ r : Int, 1 ≤ r → r ≤ σ 537 → ∃ k : Int, (0 ≤ k ∧ k < σ 535) ∧ σ (360 + 10 * k + 4) = r) ∧ ∀ k : Int, 0 ≤ k → k < σ 535 → σ (360 + 10 * k + 4) ≤ σ 537
/-- no trail in the row 19 -/
def zHc (σ : zS) : Prop := ∀ c : Int, 114 ≤ c → c < 120 → σ (120 + c) = 0
def zH (σ : zS) : Prop := (∀ k : Int, 0 ≤ k → k < σ 535 → zHk σ k) ∧ zHd σ ∧ zHr σ ∧ zHc σ
theorem sOw_c {σ τ : zS} (hm : 0 ≤ σ 535 ∧ σ 535 ≤ 9) (h5 : τ 535 = σ 535) {k : Int} (ho : ∀ j : Int, 0 ≤ j → j < 9 → τ (450 + 9 * k + j) = σ (450 + 9 * k + j)) : sOw τ k = sOw σ k := by
  unfold sOw
  rw [h5]
  refine zsum_c _ _ (fun a q1 q2 => ?_) hm.1 0
  unfold sOwG
  split
  · rfl
  · exact ho a q1 (by omega)
/-- the same of another row, where all its places are the same -/
theorem zHk_cg {σ τ : zS} {k : Int} (h : zHk σ k) (hm : 0 ≤ σ 535 ∧ σ 535 ≤ 9) (h5 : τ 535 = σ 535) (hw : ∀ w : Int, 0 ≤ w → w < 10 → w ≠ 2 → τ (360 + 10 * k + w) = σ (360 + 10 * k + w)) (h8 : σ (360 + 10 * k + 8) ≤ 9) (ho : ∀ j : Int, 0 ≤ j → j < 9 → τ (450 + 9 * k + j) = σ (450 + 9 * k + j)) : zHk τ k := by
  obtain ⟨h1, h2, h3, h4, h6, h7, h9, h10⟩ := h
  refine ⟨?_, ?_, ?_, ?_, ?_, ?_, fun j q1 q2 => by rw [ho j q1 q2]; exact h9 j q1 q2, ?_⟩
  · rw [hw 3 (by decide) (by decide) (by decide), hw 4 (by decide) (by decide) (by decide)]; exact h1
  · rw [hw 3 (by decide) (by decide) (by decide), hw 1 (by decide) (by decide) (by decide)]; exact h2
  · rw [hw 5 (by decide) (by decide) (by decide), hw 1 (by decide) (by decide) (by decide)]; exact h3
  · rw [hw 5 (by decide) (by decide) (by decide), hw 6 (by decide) (by decide) (by decide)]; exact h4
  · rw [hw 7 (by decide) (by decide) (by decide)]; exact h6
  · rw [hw 8 (by decide) (by decide) (by decide), hw 9 (by decide) (by decide) (by decide)]
    rcases h7 with q | q
    · exact Or.inl q
    · rw [ho (σ (360 + 10 * k + 8) - 1) (by omega) (by omega)]
      exact Or.inr q
  · rw [sOw_c hm h5 ho, hw 6 (by decide) (by decide) (by decide)]; exact h10
/-- the cells alone -/
theorem zH_le {σ τ : zS} (h : zH σ) (hm : 0 ≤ σ 535 ∧ σ 535 ≤ 9) (h8 : ∀ k : Int, 0 ≤ k → k < σ 535 → σ (360 + 10 * k + 8) ≤ 9) (ho : ∀ j : Int, (360 ≤ j ∧ j < 531) ∨ j = 535 ∨ j = 537 → τ j = σ j) (hc : ∀ c : Int, 114 ≤ c → c < 120 → τ (120 + c) = σ (120 + c) ∨ τ (120 + c) = 0) : zH τ := by
  obtain ⟨h1, h2, h3, h4⟩ := h
  have e5 := ho 535 (by omega)
  have e7 := ho 537 (by omega)
  refine ⟨fun k q1 q2 => ?_, fun a b q1 q2 q3 q4 q5 q6 q7 => ?_, ⟨fun r q1 q2 => ?_, fun k q1 q2 => ?_⟩, fun c q1 q2 => ?_⟩
  · rw [e5] at q2
    exact zHk_cg (h1 k q1 q2) hm e5 (fun w w1 w2 _ => ho _ (by omega)) (h8 k q1 q2) (fun j w1 w2 => ho _ (by omega))
  · rw [e5] at q2 q4
    rw [ho (360 + 10 * a + 3) (by omega)] at q6
    rw [ho (360 + 10 * b + 3) (by omega)] at q7
    rw [ho (360 + 10 * a + 0) (by omega), ho (360 + 10 * b + 0) (by omega), ho (360 + 10 * a + 1) (by omega), ho (360 + 10 * b + 1) (by omega)]
    exact h2 a b q1 q2 q3 q4 q5 q6 q7
  · rw [e7] at q2
    obtain ⟨k, w1, w2⟩ := h3.1 r q1 q2
    exact ⟨k, by rw [e5]; exact w1, by rw [ho (360 + 10 * k + 4) (by omega)]; exact w2⟩
  · rw [e5] at q2
    rw [e7, ho (360 + 10 * k + 4) (by omega)]
    exact h3.2 k q1 q2
  · rcases hc c q1 q2 with q | q
    · rw [q]; exact h4 c q1 q2
    · exact q
/-! a step -/
theorem zH_creep {σ : zS} {k step : Int} (h : zH σ) (hX : zX σ) (ho : zOk σ k step) (hk : 0 ≤ k ∧ k < σ 535) (hd : σ (360 + 10 * k + 3) = 0) : zH (sCreep σ k step) := by
  obtain ⟨h1, h2, h3, h4⟩ := h
  have hr := ho.r
  have hI := ho.1
  have hs := hI.1
  unfold zIs at hs
  have hm : 0 ≤ σ 535 ∧ σ 535 ≤ 9 := by omega
  have o5 : sCreep σ k step 535 = σ 535 := sCr_off ho (by omega)
  have hk9 := hI.2.2 k (by omega) (by omega)
  unfold zIk at hk9
  have hx0 := hX.r (by omega)
  obtain ⟨x1, x2, x3, x4⟩ := hX
  have hx1 := x1 _ hr.1.1 hr.1.2
  have hx4 := x4 k hk.1 hk.2
  have hxx := x2 k hk.1 hk.2
  -- why it helps
  have hwhy : sWhy σ k (sTo σ k step) = 0 → 1 ≤ σ (120 + sTo σ k step) ∧ σ (120 + sTo σ k step) - 1 ≠ k ∧ ¬ (σ (360 + 10 * k + 8) = σ (120 + sTo σ k step) ∧ σ (360 + 10 * k + 9) ≥ σ 532) := by
    intro q
    unfold sWhy at q
    split at q
    · omega
    · split at q
      · omega
      · split at q
        · omega
        · omega
  have hcell : sOn σ (sLn (σ (360 + 10 * k + 0)) step) (σ (360 + 10 * k + 1) + 1) = -5 := by
    have hp := ho.2.2.2
    unfold sPr at hp
    split at hp
    · split at hp
      · exact absurd rfl hp
      · rename_i q
        exact Decidable.byContradiction q
    · exact absurd rfl hp
  have hother : ∀ a : Int, 0 ≤ a → a < σ 535 → a ≠ k → (∀ w : Int, 0 ≤ w → w < 10 → sCreep σ k step (360 + 10 * a + w) = σ (360 + 10 * a + w)) ∧ ∀ j : Int, 0 ≤ j → j < 9 → sCreep σ k step (450 + 9 * a + j) = σ (450 + 9 * a + j) := by
    intro a q1 q2 q3
    refine ⟨fun w w1 w2 => sCr_off ho (by omega), fun j w1 w2 => ?_⟩
    rw [sCr_ow ho ⟨q1, by omega⟩ ⟨w1, w2⟩, if_neg (by omega), Int.add_zero]
  refine ⟨fun a q1 q2 => ?_, fun a b q1 q2 q3 q4 q5 q6 q7 => ?_, ⟨fun r q1 q2 => ?_, fun a q1 q2 => ?_⟩, fun c q1 q2 => ?_⟩
  · rw [o5] at q2
    by_cases ha : a = k
    · subst ha
      obtain ⟨g1, g2, g3, g4, g6, g7, g9, g10⟩ := h1 a q1 q2
      have hrank : σ (360 + 10 * a + 4) = 0 := by omega
      refine ⟨?_, ?_, ?_, ?_, ?_, ?_, fun j w1 w2 => ?_, ?_⟩
      · rw [sCr_3 ho, sCr_4 ho]
        split <;> omega
      · rw [sCr_3 ho, sCr_1 ho]
        split <;> omega
      · rw [sCr_5 ho, sCr_1 ho]; omega
      · rw [sCr_6 ho, sCr_5 ho]
        split <;> omega
      · rw [sCr_7 ho]; exact g6
      · rw [sCr_8 ho, sCr_9 ho]
        by_cases hy : sWhy σ a (sTo σ a step) = 0
        · obtain ⟨y1, y2, y3⟩ := hwhy hy
          rw [if_pos hy, if_pos hy, sCr_ow ho ⟨q1, by omega⟩ (b := σ (120 + sTo σ a step) - 1) ⟨by omega, by omega⟩, if_pos (show sWhy σ a (sTo σ a step) = 0 ∧ a = a ∧ σ (120 + sTo σ a step) - 1 = σ (120 + sTo σ a step) - 1 from ⟨hy, rfl, rfl⟩)]
          have g9' := g9 (σ (120 + sTo σ a step) - 1) (by omega) (by omega)
          right
          by_cases e : σ (360 + 10 * a + 8) = σ (120 + sTo σ a step)
          · rw [if_pos e]
            rcases g7 with g7 | g7
            · omega
            · rw [e] at g7
              have : ¬ σ (360 + 10 * a + 9) ≥ σ 532 := fun q => y3 ⟨e, q⟩
              omega
          · rw [if_neg e]
            omega
        · rw [if_neg hy, if_neg hy]
          exact Or.inl ⟨rfl, rfl⟩
      · rw [sCr_ow ho ⟨q1, by omega⟩ ⟨w1, w2⟩]
        have := g9 j w1 w2
        split <;> omega
      · rw [sCr_6 ho, ← g10]
        unfold sOw
        rw [o5]
        by_cases hy : sWhy σ a (sTo σ a step) = 0
        · obtain ⟨y1, y2, y3⟩ := hwhy hy
          rw [if_pos hy, zsum_u (sOwG σ a) (sOwG (sCreep σ a step) a) (σ 535) (σ (120 + sTo σ a step) - 1) 1 ?_ (fun j w1 w2 w3 => ?_) (σ 535).toNat 0 0 (by omega) (by omega), if_pos (by omega)]
          · unfold sOwG
            rw [if_neg y2, if_neg y2, sCr_ow ho ⟨q1, by omega⟩ ⟨by omega, by omega⟩, if_pos ⟨hy, rfl, rfl⟩]
          · unfold sOwG
            split
            · rfl
            · rw [sCr_ow ho ⟨q1, by omega⟩ ⟨w1, by omega⟩, if_neg (by omega), Int.add_zero]
        · rw [if_neg hy, Int.add_zero]
          refine zsum_c _ _ (fun j w1 w2 => ?_) hm.1 0
          unfold sOwG
          split
          · rfl
          · rw [sCr_ow ho ⟨q1, by omega⟩ ⟨w1, by omega⟩, if_neg (fun q => hy q.1), Int.add_zero]
    · have hoa := hother a q1 q2 ha
      have := x2 a q1 q2
      exact zHk_cg (h1 a q1 q2) hm o5 (fun w w1 w2 _ => hoa.1 w w1 w2) (by omega) hoa.2
  · rw [o5] at q2 q4
    by_cases ha : a = k
    · subst ha
      have hob := hother b q3 q4 (Ne.symm q5)
      rw [hob.1 3 (by decide) (by decide)] at q7
      rw [sCr_0 ho, sCr_1 ho, hob.1 0 (by decide) (by decide), hob.1 1 (by decide) (by decide)]
      have := sOn_no hm.1 hcell ⟨q3, q4⟩
      exact fun q => this ⟨q7, q.1.symm, q.2.symm⟩
    · have hoa := hother a q1 q2 ha
      rw [hoa.1 3 (by decide) (by decide)] at q6
      rw [hoa.1 0 (by decide) (by decide), hoa.1 1 (by decide) (by decide)]
      by_cases hb : b = k
      · subst hb
        rw [sCr_0 ho, sCr_1 ho]
        have := sOn_no hm.1 hcell ⟨q1, q2⟩
        exact fun q => this ⟨q6, q.1, q.2⟩
      · have hob := hother b q3 q4 hb
        rw [hob.1 3 (by decide) (by decide)] at q7
        rw [hob.1 0 (by decide) (by decide), hob.1 1 (by decide) (by decide)]
        exact h2 a b q1 q2 q3 q4 q5 q6 q7
  · rw [sCr_537 ho] at q2
    have hg := (h1 k hk.1 hk.2).1
    by_cases hr7 : r ≤ σ 537
    · obtain ⟨a, w1, w2⟩ := h3.1 r q1 hr7
      have hak : a ≠ k := fun e => by subst e; omega
      exact ⟨a, by rw [o5]; exact w1, by rw [(hother a w1.1 w1.2 hak).1 4 (by decide) (by decide)]; exact w2⟩
    · refine ⟨k, by rw [o5]; exact hk, ?_⟩
      rw [sCr_4 ho]
      split
      · rename_i e
        rw [if_pos e] at q2
        omega
      · rename_i e
        rw [if_neg e] at q2
        omega
  · rw [o5] at q2
    have hge : σ 537 ≤ sCreep σ k step 537 := by
      rw [sCr_537 ho]
      split <;> omega
    by_cases ha : a = k
    · subst ha
      have := h3.2 a q1 q2
      rw [sCr_4 ho]
      split
      · rename_i e
        rw [sCr_537 ho, if_pos e]
        omega
      · omega
    · rw [(hother a q1 q2 ha).1 4 (by decide) (by decide)]
      have := h3.2 a q1 q2
      omega
  · rw [sCr_off ho (by omega)]
    exact h4 c q1 q2
