/-! ===== the choice of a step, ends, the best lane, who leads ===== -/
def cF (P : Int → Int) (s f : Int) : Int := if P s ≠ -5 ∧ (f = 4 ∨ P s < P f) then s else f
theorem cF_min (P : Int → Int) : ∀ (n : Nat) (i f : Int), 0 ≤ i → i + n = 3 → ((f = 4 ∧ ∀ t : Int, 0 ≤ t → t < i → P t = -5) ∨ ((0 ≤ f ∧ f < i) ∧ P f ≠ -5 ∧ ∀ t : Int, 0 ≤ t → t < i → P t = -5 ∨ P f < P t ∨ (P f = P t ∧ f ≤ t))) → ((zfor (cF P) i 3 f = 4 ∧ ∀ t : Int, 0 ≤ t → t < 3 → P t = -5) ∨ ((0 ≤ zfor (cF P) i 3 f ∧ zfor (cF P) i 3 f < 3) ∧ P (zfor (cF P) i 3 f) ≠ -5 ∧ ∀ t : Int, 0 ≤ t → t < 3 → P t = -5 ∨ P (zfor (cF P) i 3 f) < P t ∨ (P (zfor (cF P) i 3 f) = P t ∧ zfor (cF P) i 3 f ≤ t)))
  | 0, i, f, h0, h, hf => by
    obtain rfl : i = 3 := by omega
    rw [zfor_end (by omega)]
    exact hf
  | n + 1, i, f, h0, h, hf => by
    rw [zfor_step (by omega)]
    refine cF_min P n (i + 1) _ (by omega) (by omega) ?_
    have hsp : ∀ t : Int, t < i + 1 → t < i ∨ t = i := fun t q => by omega
    unfold cF
    rcases hf with ⟨rfl, hf⟩ | ⟨f0, f1, hf⟩
    · by_cases hi : P i = -5
      · rw [if_neg (fun q => q.1 hi)]
        refine Or.inl ⟨rfl, fun t q1 q2 => ?_⟩
        rcases hsp t q2 with q | rfl
        · exact hf t q1 q
        · exact hi
      · rw [if_pos ⟨hi, Or.inl rfl⟩]
        refine Or.inr ⟨by omega, hi, fun t q1 q2 => ?_⟩
        rcases hsp t q2 with q | rfl
        · exact Or.inl (hf t q1 q)
        · exact Or.inr (Or.inr ⟨rfl, by omega⟩)
    · by_cases hi : P i ≠ -5 ∧ (f = 4 ∨ P i < P f)
      · rw [if_pos hi]
        refine Or.inr ⟨by omega, hi.1, fun t q1 q2 => ?_⟩
        rcases hsp t q2 with q | rfl
        · rcases hf t q1 q with z | z | z
          · exact Or.inl z
          · right; left; omega
          · right; left; omega
        · exact Or.inr (Or.inr ⟨rfl, by omega⟩)
      · rw [if_neg hi]
        refine Or.inr ⟨by omega, f1, fun t q1 q2 => ?_⟩
        rcases hsp t q2 with q | rfl
        · exact hf t q1 q
        · by_cases z : P t = -5
          · exact Or.inl z
          · right
            have : ¬ (P t < P f) := fun y => hi ⟨z, Or.inr y⟩
            omega
theorem sCb_min (σ : zS) (k : Int) : (sCb σ k = 4 ∧ ∀ t : Int, 0 ≤ t → t < 3 → sPr σ k t = -5) ∨ ((0 ≤ sCb σ k ∧ sCb σ k < 3) ∧ sPr σ k (sCb σ k) ≠ -5 ∧ ∀ t : Int, 0 ≤ t → t < 3 → sPr σ k t = -5 ∨ sPr σ k (sCb σ k) < sPr σ k t ∨ (sPr σ k (sCb σ k) = sPr σ k t ∧ sCb σ k ≤ t)) := cF_min (sPr σ k) 3 0 4 (by omega) (by omega) (Or.inl ⟨rfl, fun t q1 q2 => by omega⟩)
/-- what a snail would do, beside the costs -/
theorem sCh_all (σ : zS) (k : Int) : (0 ≤ sCh σ k ∧ sCh σ k ≤ 4) ∧ ∀ t : Int, 0 ≤ t → t < 3 → (sCh σ k ≤ 2 → sPr σ k t = -5 ∨ sPr σ k t > sPr σ k (sCh σ k) ∨ (sPr σ k t = sPr σ k (sCh σ k) ∧ t ≥ sCh σ k)) ∧ (sCh σ k = 4 → sPr σ k t = -5) ∧ (sCh σ k = 3 → sPr σ k t = -5 ∨ sPr σ k t > σ (360 + 10 * k + 2)) := by
  rcases sCb_min σ k with ⟨h1, h2⟩ | ⟨h1, h2, h3⟩
  · have e : sCh σ k = 4 := by
      unfold sCh
      rw [if_neg (by omega), h1]
    rw [e]
    exact ⟨by omega, fun t q1 q2 => ⟨fun z => by omega, fun _ => h2 t q1 q2, fun z => by omega⟩⟩
  · by_cases hs : sPr σ k (sCb σ k) > σ (360 + 10 * k + 2)
    · have e : sCh σ k = 3 := by
        unfold sCh
        rw [if_pos ⟨by omega, hs⟩]
      rw [e]
      refine ⟨by omega, fun t q1 q2 => ⟨fun z => by omega, fun z => by omega, fun _ => ?_⟩⟩
      rcases h3 t q1 q2 with z | z | z
      · exact Or.inl z
      · right; omega
      · right; omega
    · have e : sCh σ k = sCb σ k := by
        unfold sCh
        rw [if_neg (fun q => hs q.2)]
      rw [e]
      refine ⟨by omega, fun t q1 q2 => ⟨fun _ => ?_, fun z => by omega, fun z => by omega⟩⟩
      rcases h3 t q1 q2 with z | z | z
      · exact Or.inl z
      · right; left; omega
      · right; right; omega
/-! ends -/
def zE (σ : zS) (k : Int) : Prop := σ (360 + 10 * k + 3) = 1 → σ (360 + 10 * k + 1) = 19
theorem sAct_row {σ : zS} (hA : zA σ) {j k : Int} (hj : 0 ≤ j ∧ j < 9) (hk : 0 ≤ k ∧ k < 9) (hE : zE σ k) : sAct σ j (360 + 10 * k + 1) ≤ σ (360 + 10 * k + 1) + (if j = k then 1 else 0) ∧ zE (sAct σ j) k := by
  unfold zE at hE ⊢
  unfold sAct
  split
  · rename_i hd
    split
    · rename_i hc
      have hl := sCh_lt hc
      have ho : zOk σ j (sCh σ j) := ⟨hA.1, hj, hl.1, hl.2.1⟩
      by_cases e : j = k
      · subst e
        rw [sCr_1 ho, sCr_3 ho, if_pos rfl]
        refine ⟨by omega, ?_⟩
        split <;> omega
      · rw [sCr_off ho (by omega), sCr_off ho (by omega), if_neg e]
        exact ⟨by omega, hE⟩
    · rw [sRs_off (by omega) (by omega) (by omega) (by omega), sRs_off (by omega) (by omega) (by omega) (by omega)]
      refine ⟨?_, hE⟩
      split <;> omega
  · refine ⟨?_, hE⟩
    split <;> omega
theorem sAll_row (m : Int) (hm : m ≤ 9) {k : Int} (hk : 0 ≤ k ∧ k < 9) : ∀ (n : Nat) (i : Int) (σ : zS), 0 ≤ i → i + n = m → zA σ → zE σ k → zfor (fun k s => sAct s k) i m σ (360 + 10 * k + 1) ≤ σ (360 + 10 * k + 1) + (if i ≤ k then 1 else 0) ∧ zE (zfor (fun k s => sAct s k) i m σ) k
  | 0, i, σ, h0, h, hA, hE => by
    rw [zfor_end (by omega)]
    refine ⟨?_, hE⟩
    split <;> omega
  | n + 1, i, σ, h0, h, hA, hE => by
    rw [zfor_step (by omega)]
    have ha := zA_act hA (k := i) (by omega)
    have hr := sAct_row hA (j := i) (by omega) hk hE
    have ih := sAll_row m hm hk n (i + 1) _ (by omega) (by omega) ha.1 hr.2
    refine ⟨?_, ih.2⟩
    have h1 := ih.1
    have h2 := hr.1
    by_cases e : i = k
    · rw [if_pos e] at h2
      rw [if_neg (by omega)] at h1
      rw [if_pos (by omega)]
      omega
    · rw [if_neg e] at h2
      by_cases e2 : i + 1 ≤ k
      · rw [if_pos e2] at h1
        rw [if_pos (by omega)]
        omega
      · rw [if_neg e2] at h1
        rw [if_neg (by omega)]
        omega
theorem sTurn_row {σ : zS} (hA : zA σ) {k : Int} (hk : 0 ≤ k ∧ k < 9) (hE : zE σ k) : sTurn σ (360 + 10 * k + 1) ≤ σ (360 + 10 * k + 1) + 1 ∧ zE (sTurn σ) k := by
  have hm := zI_m hA.1
  have h := sAll_row (σ 535) hm.2 hk (σ 535).toNat 0 σ (by omega) (by omega) hA hE
  have o : ∀ j : Int, 360 ≤ j → j < 536 → sTurn σ j = sAll σ j := fun j q1 q2 => by
    unfold sTurn
    rw [sGrow_o _ _ (by omega)]
    unfold sTick
    rw [zu_ne (by omega), sDry_o _ (by omega), sAge_o _ (by omega)]
  refine ⟨?_, ?_⟩
  · rw [o _ (by omega) (by omega)]
    have h1 := h.1
    show sAll σ (360 + 10 * k + 1) ≤ _
    have h3 : sAll σ (360 + 10 * k + 1) ≤ σ (360 + 10 * k + 1) + (if 0 ≤ k then 1 else 0) := h1
    rw [if_pos hk.1] at h3
    exact h3
  · have h2 : zE (sAll σ) k := h.2
    unfold zE at h2 ⊢
    rw [o _ (by omega) (by omega), o _ (by omega) (by omega)]
    exact h2
theorem sEn_lb {k : Int} (hk : 0 ≤ k ∧ k < 9) : ∀ (n : Nat) (i : Int) (σ : zS), zA σ → zE σ k → sEn k n i σ = -5 ∨ i + 19 - σ (360 + 10 * k + 1) ≤ sEn k n i σ
  | 0, i, σ, hA, hE => by
    unfold sEn
    split
    · rename_i h
      have := hE h
      right; omega
    · exact Or.inl rfl
  | n + 1, i, σ, hA, hE => by
    unfold sEn
    split
    · have ht := sTurn_row hA hk hE
      have ih := sEn_lb hk n (i + 1) _ (zA_turn hA).1 ht.2
      have := ht.1
      omega
    · split
      · rename_i h
        have := hE h
        right; omega
      · exact Or.inl rfl
/-- in how many turns a snail ends -/
theorem sEndsIn_all {σ : zS} (hA : zA σ) (hH : zH σ) {k : Int} (hk : 0 ≤ k ∧ k < σ 535) : (σ (360 + 10 * k + 3) = 2 → sEndsIn σ k = -4) ∧ (σ (360 + 10 * k + 3) = 1 → sEndsIn σ k = 0) ∧ (σ (360 + 10 * k + 3) = 0 → sEndsIn σ k = -5 ∨ (1 ≤ sEndsIn σ k ∧ sEndsIn σ k ≤ 300 ∧ 19 - σ (360 + 10 * k + 1) ≤ sEndsIn σ k)) := by
  have hm := zI_m hA.1
  have hE : zE σ k := fun q => ((hH.1 k hk.1 hk.2).2.1).mp q
  unfold sEndsIn
  rw [if_neg (fun q => q hk)]
  refine ⟨fun h => by rw [if_pos h], fun h => ?_, fun h => ?_⟩
  · rw [if_neg (by omega), sEnds_step (by decide), if_neg (by omega), if_pos h]
  · rw [if_neg (by omega)]
    have h1 := sEn_lb (k := k) ⟨hk.1, by omega⟩ 300 0 σ hA hE
    have h2 := sEnds_r k (0 + 1) (sTurn σ) (by decide)
    have h3 : sEnds k 0 σ = sEnds k (0 + 1) (sTurn σ) := by rw [sEnds_step (by decide), if_pos h]
    have h4 : sEn k 300 0 σ = sEnds k 0 σ := rfl
    rw [h4] at h1
    omega
/-- the best lane -/
theorem sBest_all {σ : zS} (hA : zA σ) (h8 : σ 535 ≤ 8) {slime : Int} (hs : 0 ≤ slime ∧ slime ≤ 99) : ((sBest σ slime).1 = -5 ∧ (sBest σ slime).2 = -5) ∨ ((0 ≤ (sBest σ slime).1 ∧ (sBest σ slime).1 < 6) ∧ sOn σ (sBest σ slime).1 0 = -5 ∧ 19 ≤ (sBest σ slime).2 ∧ (sBest σ slime).2 ≤ 300) := by
  have hm := zI_m hA.1
  have key : ∀ (n : Nat) (i : Int) (x : Int × Int), 0 ≤ i → i + n = 6 → ((x.1 = -5 ∧ x.2 = -5) ∨ ((0 ≤ x.1 ∧ x.1 < 6) ∧ sOn σ x.1 0 = -5 ∧ 19 ≤ x.2 ∧ x.2 ≤ 300)) → (((zfor (sBestF σ slime) i 6 x).1 = -5 ∧ (zfor (sBestF σ slime) i 6 x).2 = -5) ∨ ((0 ≤ (zfor (sBestF σ slime) i 6 x).1 ∧ (zfor (sBestF σ slime) i 6 x).1 < 6) ∧ sOn σ (zfor (sBestF σ slime) i 6 x).1 0 = -5 ∧ 19 ≤ (zfor (sBestF σ slime) i 6 x).2 ∧ (zfor (sBestF σ slime) i 6 x).2 ≤ 300)) := by
    intro n
    induction n with
    | zero =>
      intro i x h0 h hx
      rw [zfor_end (by omega)]
      exact hx
    | succ n ih =>
      intro i x h0 h hx
      rw [zfor_step (by omega)]
      refine ih (i + 1) _ (by omega) (by omega) ?_
      unfold sBestF
      split
      · rename_i hc
        right
        have hco := zA_come hA h8 (lane := i) (slime := slime) (by omega) hs
        have h3 : sCome σ i slime (360 + 10 * σ 535 + 3) = 0 := by rw [sCo_at (by omega) (w := 3) (by decide), if_neg (by decide), if_neg (by decide)]
        have h1 : sCome σ i slime (360 + 10 * σ 535 + 1) = 0 := by rw [sCo_at (by omega) (w := 1) (by decide), if_neg (by decide), if_neg (by decide)]
        have hlb := sEn_lb (k := σ 535) (by omega) 300 0 (sCome σ i slime) hco.1 (fun q => by rw [h3] at q; exact absurd q (by decide))
        have h4 : sEn (σ 535) 300 0 (sCome σ i slime) = sEnds (σ 535) 0 (sCome σ i slime) := rfl
        have h5 := sEnds_r (σ 535) 0 (sCome σ i slime) (by decide)
        rw [h4, h1] at hlb
        dsimp only
        refine ⟨by omega, hc.1, ?_, ?_⟩
        · have := hc.2.1
          omega
        · have := hc.2.1
          omega
      · exact hx
  exact key 6 0 (-5, -5) (by decide) (by decide) (Or.inl ⟨rfl, rfl⟩)
/-- who leads -/
theorem sIn_0 {σ : zS} (hm : 0 ≤ σ 535) {w : Int} (h : ∀ k : Int, 0 ≤ k → k < σ 535 → σ (360 + 10 * k + 3) ≠ w) : sIn σ w = 0 := by
  have e : sIn σ w = zfor (zsumF (fun k => if σ (360 + 10 * k + 3) = w then 1 else 0)) 0 (σ 535) 0 := rfl
  rw [e]
  exact zsum_0 _ _ (fun a q1 q2 => if_neg (h a q1 q2)) (σ 535).toNat 0 0 (by omega) (by omega)
theorem sIn_1 {σ : zS} (hm : 0 ≤ σ 535 ∧ σ 535 ≤ 9) {w k : Int} (hk : 0 ≤ k ∧ k < σ 535) (h : σ (360 + 10 * k + 3) = w) : 1 ≤ sIn σ w := by
  have h1 := sIn_u (τ := zu σ (360 + 10 * k + 3) (w + 1)) (w := w) (k := k) (d := -1) hm.1 (zu_ne (by omega)) hk (by unfold sInF; rw [zu_at, if_neg (by omega), if_pos h]; rfl) (fun a q1 q2 q3 => zu_ne (by omega))
  have h2 := sIn_r (σ := zu σ (360 + 10 * k + 3) (w + 1)) (by rw [zu_ne (by omega)]; exact hm.1) w
  omega
theorem sLead_all {σ : zS} (hm : 0 ≤ σ 535 ∧ σ 535 ≤ 9) : (sLead σ = -5 ∧ sIn σ 0 = 0) ∨ ((0 ≤ sLead σ ∧ sLead σ < σ 535) ∧ σ (360 + 10 * sLead σ + 3) = 0 ∧ 1 ≤ sIn σ 0) := by
  have key : ∀ (n : Nat) (i f : Int), 0 ≤ i → i + n = σ 535 → ((f = -5 ∧ ∀ k : Int, 0 ≤ k → k < i → σ (360 + 10 * k + 3) ≠ 0) ∨ ((0 ≤ f ∧ f < i) ∧ σ (360 + 10 * f + 3) = 0)) → ((zfor (sLeadF σ) i (σ 535) f = -5 ∧ ∀ k : Int, 0 ≤ k → k < σ 535 → σ (360 + 10 * k + 3) ≠ 0) ∨ ((0 ≤ zfor (sLeadF σ) i (σ 535) f ∧ zfor (sLeadF σ) i (σ 535) f < σ 535) ∧ σ (360 + 10 * zfor (sLeadF σ) i (σ 535) f + 3) = 0)) := by
    intro n
    induction n with
    | zero =>
      intro i f h0 h hf
      rw [zfor_end (by omega)]
      rw [show i = σ 535 by omega] at hf
      exact hf
    | succ n ih =>
      intro i f h0 h hf
      rw [zfor_step (by omega)]
      refine ih (i + 1) _ (by omega) (by omega) ?_
      unfold sLeadF
      split
      · rename_i hc
        exact Or.inr ⟨by omega, hc.1⟩
      · rename_i hc
        rcases hf with ⟨h1, h2⟩ | ⟨h1, h2⟩
        · refine Or.inl ⟨h1, fun k q1 q2 => ?_⟩
          by_cases e : k = i
          · rw [e]
            exact fun z => hc ⟨z, Or.inl h1⟩
          · exact h2 k q1 (by omega)
        · exact Or.inr ⟨by omega, h2⟩
  rcases key (σ 535).toNat 0 (-5) (by omega) (by omega) (Or.inl ⟨rfl, fun k q1 q2 => by omega⟩) with h | h
  · exact Or.inl ⟨h.1, sIn_0 hm.1 h.2⟩
  · exact Or.inr ⟨h.1, h.2, sIn_1 hm h.1 h.2⟩
/-! who is there -/
def thG (σ : zS) (i c : Int) : Int := if zfind (sOnP σ (c % 6) (c / 6)) 0 i = -5 then 0 else 1
theorem thG_next {σ : zS} {i : Int} (hi : 0 ≤ i) (c : Int) : thG σ (i + 1) c = if sOnP σ (c % 6) (c / 6) i = true then 1 else thG σ i c := by
  have h1 := zfind_none (P := sOnP σ (c % 6) (c / 6)) (m := i + 1) (i + 1).toNat 0 (by omega) (by omega)
  have h2 := zfind_none (P := sOnP σ (c % 6) (c / 6)) (m := i) i.toNat 0 (by omega) (by omega)
  unfold thG
  by_cases hp : sOnP σ (c % 6) (c / 6) i = true
  · rw [if_pos hp, if_neg (fun q => h1.mp q i hi (by omega) hp)]
  · rw [if_neg hp]
    by_cases hq : zfind (sOnP σ (c % 6) (c / 6)) 0 i = -5
    · rw [if_pos hq, if_pos]
      refine h1.mpr (fun j q1 q2 => ?_)
      by_cases e : j = i
      · rw [e]; exact hp
      · exact h2.mp hq j q1 (by omega)
    · rw [if_neg hq, if_neg]
      exact fun q => hq (h2.mpr (fun j q1 q2 => h1.mp q j q1 (by omega)))
theorem th_sum {σ : zS} (hI : zI σ) (hH : zH σ) : zfor (zsumF (thG σ (σ 535))) 0 120 0 = sIn σ 0 := by
  have hm := zI_m hI
  have key : ∀ n : Nat, (n : Int) ≤ σ 535 → zfor (zsumF (thG σ (n : Int))) 0 120 0 = zfor (sInF σ 0) 0 (n : Int) 0 := by
    intro n
    induction n with
    | zero =>
      intro _
      rw [zfor_end (f := sInF σ 0) (by omega)]
      refine zsum_0 _ _ (fun c q1 q2 => ?_) 120 0 0 (by omega) (by omega)
      unfold thG
      rw [zfind_end (by omega), if_pos rfl]
    | succ n ih =>
      intro hn
      have ih := ih (by omega)
      have hk9 := hI.2.2 (n : Int) (by omega) (by omega)
      unfold zIk at hk9
      rw [show ((n + 1 : Nat) : Int) = (n : Int) + 1 by omega, zfor_last (f := sInF σ 0) n 0 0 (by omega), ← ih]
      by_cases hd : σ (360 + 10 * (n : Int) + 3) = 0
      · rw [show sInF σ 0 (n : Int) (zfor (zsumF (thG σ (n : Int))) 0 120 0) = zfor (zsumF (thG σ (n : Int))) 0 120 0 + 1 from by unfold sInF; rw [if_pos hd]]
        have hno : thG σ (n : Int) (6 * σ (360 + 10 * (n : Int) + 1) + σ (360 + 10 * (n : Int) + 0)) = 0 := by
          unfold thG
          rw [if_pos]
          refine (zfind_none (n : Int).toNat 0 (by omega) (by omega)).mpr (fun j q1 q2 hp => ?_)
          have hp := of_decide_eq_true hp
          exact hH.2.1 j (n : Int) q1 (by omega) (by omega) (by omega) (by omega) hp.1 hd ⟨by omega, by omega⟩
        rw [zsum_u (thG σ (n : Int)) (thG σ ((n : Int) + 1)) 120 (6 * σ (360 + 10 * (n : Int) + 1) + σ (360 + 10 * (n : Int) + 0)) 1 ?_ (fun c q1 q2 q3 => ?_) 120 0 0 (by omega) (by omega), if_pos (by omega)]
        · rw [hno, thG_next (by omega), if_pos]
          · rfl
          · exact sOnP_t ⟨hd, by omega, by omega⟩
        · rw [thG_next (by omega), if_neg]
          intro hp
          have hp := of_decide_eq_true hp
          omega
      · rw [show sInF σ 0 (n : Int) (zfor (zsumF (thG σ (n : Int))) 0 120 0) = zfor (zsumF (thG σ (n : Int))) 0 120 0 from by unfold sInF; rw [if_neg hd, Int.add_zero]]
        refine zsum_c _ _ (fun c q1 q2 => ?_) (by decide) 0
        rw [thG_next (by omega), if_neg]
        intro hp
        exact hd (of_decide_eq_true hp).1
  have := key (σ 535).toNat (by omega)
  rw [show (((σ 535).toNat : Nat) : Int) = σ 535 by omega] at this
  exact this
/-! the ranks as bits -/
theorem rank_bits {R E : Nat} (hE : E ≤ 8) (h : ∀ r : Nat, R.testBit r = true ↔ 1 ≤ r ∧ r ≤ E) : R = 2 ^ (E + 1) - 2 := by
  apply Nat.eq_of_testBit_eq
  intro r
  have hb : (2 ^ (E + 1) - 2).testBit r = decide (1 ≤ r ∧ r ≤ E) := by
    by_cases hr : r < 10
    · have all : ∀ E : Fin 9, ∀ r : Fin 10, (2 ^ (E.val + 1) - 2).testBit r.val = decide (1 ≤ r.val ∧ r.val ≤ E.val) := by decide +kernel
      exact all ⟨E, by omega⟩ ⟨r, hr⟩
    · have h1 : 2 ^ (E + 1) - 2 < 2 ^ r := by
        have : 2 ^ (E + 1) ≤ 2 ^ r := Nat.pow_le_pow_right (by decide) (by omega)
        have h0 : 0 < 2 ^ (E + 1) := Nat.pow_pos (by decide)
        omega
      rw [Nat.testBit_lt_two_pow h1]
      exact (decide_eq_false (by omega)).symm
  rw [hb]
  by_cases q : 1 ≤ r ∧ r ≤ E
  · rw [(h r).mpr q, decide_eq_true q]
  · rw [decide_eq_false q]
    by_cases z : R.testBit r = true
    · exact absurd ((h r).mp z) q
    · exact Bool.eq_false_iff.mpr z
