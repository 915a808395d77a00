theorem zH_rest {σ : zS} {k : Int} (h : zH σ) (hI : zI σ) (hk : 0 ≤ k ∧ k < σ 535) : zH (sRest σ k) := by
  have hs := hI.1
  unfold zIs at hs
  have hm : 0 ≤ σ 535 ∧ σ 535 ≤ 9 := by omega
  obtain ⟨h1, h2, h3, h4⟩ := h
  have o : ∀ j : Int, j ≠ 360 + 10 * k + 2 → j ≠ 360 + 10 * k + 7 → j ≠ 360 + 10 * k + 8 → j ≠ 360 + 10 * k + 9 → sRest σ k j = σ j := fun j a b c d => sRs_off a b c d
  have e5 : sRest σ k 535 = σ 535 := o 535 (by omega) (by omega) (by omega) (by omega)
  have e7 : sRest σ k 537 = σ 537 := o 537 (by omega) (by omega) (by omega) (by omega)
  have ow : ∀ a w : Int, 0 ≤ w → w < 10 → w ≠ 2 → w ≠ 7 → w ≠ 8 → w ≠ 9 → sRest σ k (360 + 10 * a + w) = σ (360 + 10 * a + w) := fun a w w1 w2 w3 w4 w5 w6 => o _ (by omega) (by omega) (by omega) (by omega)
  refine ⟨fun a q1 q2 => ?_, fun a b q1 q2 q3 q4 q5 q6 q7 => ?_, ⟨fun r q1 q2 => ?_, fun a q1 q2 => ?_⟩, fun c q1 q2 => ?_⟩
  · rw [e5] at q2
    have hk9 := hI.2.2 a q1 (by omega)
    unfold zIk at hk9
    by_cases ha : a = k
    · subst ha
      obtain ⟨g1, g2, g3, g4, g6, g7, g9, g10⟩ := h1 a q1 q2
      refine ⟨?_, ?_, ?_, ?_, ?_, ?_, fun j w1 w2 => ?_, ?_⟩
      · rw [ow a 3 (by decide) (by decide) (by decide) (by decide) (by decide) (by decide), ow a 4 (by decide) (by decide) (by decide) (by decide) (by decide) (by decide)]; exact g1
      · rw [ow a 3 (by decide) (by decide) (by decide) (by decide) (by decide) (by decide), ow a 1 (by decide) (by decide) (by decide) (by decide) (by decide) (by decide)]; exact g2
      · rw [ow a 5 (by decide) (by decide) (by decide) (by decide) (by decide) (by decide), ow a 1 (by decide) (by decide) (by decide) (by decide) (by decide) (by decide)]; exact g3
      · rw [ow a 5 (by decide) (by decide) (by decide) (by decide) (by decide) (by decide), ow a 6 (by decide) (by decide) (by decide) (by decide) (by decide) (by decide)]; exact g4
      · rw [sRs_7]; omega
      · rw [sRs_8, sRs_9]; exact Or.inl ⟨rfl, rfl⟩
      · rw [o _ (by omega) (by omega) (by omega) (by omega)]; exact g9 j w1 w2
      · rw [sOw_c hm e5 (fun j w1 w2 => o _ (by omega) (by omega) (by omega) (by omega)), ow a 6 (by decide) (by decide) (by decide) (by decide) (by decide) (by decide)]; exact g10
    · exact zHk_cg (h1 a q1 q2) hm e5 (fun w w1 w2 w3 => o _ (by omega) (by omega) (by omega) (by omega)) (by omega) (fun j w1 w2 => o _ (by omega) (by omega) (by omega) (by omega))
  · rw [e5] at q2 q4
    rw [ow a 3 (by decide) (by decide) (by decide) (by decide) (by decide) (by decide)] at q6
    rw [ow b 3 (by decide) (by decide) (by decide) (by decide) (by decide) (by decide)] at q7
    rw [ow a 0 (by decide) (by decide) (by decide) (by decide) (by decide) (by decide), ow b 0 (by decide) (by decide) (by decide) (by decide) (by decide) (by decide), ow a 1 (by decide) (by decide) (by decide) (by decide) (by decide) (by decide), ow b 1 (by decide) (by decide) (by decide) (by decide) (by decide) (by decide)]
    exact h2 a b q1 q2 q3 q4 q5 q6 q7
  · rw [e7] at q2
    obtain ⟨a, w1, w2⟩ := h3.1 r q1 q2
    exact ⟨a, by rw [e5]; exact w1, by rw [ow a 4 (by decide) (by decide) (by decide) (by decide) (by decide) (by decide)]; exact w2⟩
  · rw [e5] at q2
    rw [e7, ow a 4 (by decide) (by decide) (by decide) (by decide) (by decide) (by decide)]
    exact h3.2 a q1 q2
  · rw [o _ (by omega) (by omega) (by omega) (by omega)]
    exact h4 c q1 q2
theorem zH_act {σ : zS} (h : zH σ) (hI : zI σ) (hX : zX σ) {k : Int} (hk : 0 ≤ k ∧ k < σ 535) : zH (sAct σ k) := by
  have hs := hI.1
  unfold zIs at hs
  unfold sAct
  split
  · rename_i hd
    split
    · rename_i hc
      have hl := sCh_lt hc
      exact zH_creep h hX ⟨hI, by omega, hl.1, hl.2.1⟩ hk hd
    · exact zH_rest h hI hk
  · exact h
theorem zH_all0 (m : Int) (hm : m ≤ 9) : ∀ (n : Nat) (i : Int) (σ : zS), 0 ≤ i → i + n = m → zA σ → zX σ → zH σ → σ 535 = m → zH (zfor (fun k s => sAct s k) i m σ)
  | 0, i, σ, h0, h, hA, hX, hH, h5 => by rw [zfor_end (by omega)]; exact hH
  | n + 1, i, σ, h0, h, hA, hX, hH, h5 => by
    rw [zfor_step (by omega)]
    have ha := zA_act hA (k := i) (by omega)
    exact zH_all0 m hm n (i + 1) _ (by omega) (by omega) ha.1 (zX_act hA.1 hX (by omega)) (zH_act hH hA.1 hX (by omega)) ((ha.2 535 (by omega) (by omega)).trans h5)
theorem zI_8 {σ : zS} (hI : zI σ) : ∀ k : Int, 0 ≤ k → k < σ 535 → σ (360 + 10 * k + 8) ≤ 9 := fun k q1 q2 => by
  have hs := hI.1
  unfold zIs at hs
  have := hI.2.2 k q1 (by omega)
  unfold zIk at this
  omega
theorem zI_m {σ : zS} (hI : zI σ) : 0 ≤ σ 535 ∧ σ 535 ≤ 9 := by
  have hs := hI.1
  unfold zIs at hs
  omega
theorem zH_turn {σ : zS} (hA : zA σ) (hX : zX σ) (h : zH σ) : zH (sTurn σ) := by
  have hm := zI_m hA.1
  have hall := zA_all hA
  have h1 : zH (sAll σ) := zH_all0 (σ 535) hm.2 (σ 535).toNat 0 σ (by omega) (by omega) hA hX h rfl
  have hm1 := zI_m hall.1.1
  have i1 := zI_age hall.1.1 hall.1.2.1
  have h2 : zH (sAge (sAll σ)) := zH_le h1 hm1 (zI_8 hall.1.1) (fun j hj => sAge_o _ (by omega)) (fun c q1 q2 => Or.inl (sAge_o _ (by omega)))
  have i2 := zI_dry i1
  have h3 : zH (sDry (sAge (sAll σ))) := zH_le h2 (zI_m i1) (zI_8 i1) (fun j hj => sDry_o _ (by omega)) (fun c q1 q2 => by
    rw [sDry_tr _ ⟨by omega, by omega⟩]
    split
    · exact Or.inr rfl
    · exact Or.inl rfl)
  have i3 := zI_tick i2
  have h4 : zH (sTick (sDry (sAge (sAll σ)))) := zH_le h3 (zI_m i2) (zI_8 i2) (fun j hj => zu_ne (by omega)) (fun c q1 q2 => Or.inl (zu_ne (by omega)))
  unfold sTurn
  exact zH_le h4 (zI_m i3) (zI_8 i3) (fun j hj => sGrow_o _ _ (by omega)) (fun c q1 q2 => Or.inl (sGrow_o _ _ (by omega)))
theorem zH_ts0 (m : Int) : ∀ (n : Nat) (i : Int) (σ : zS), i + n = m → zA σ → zX σ → zH σ → zH (zfor (fun _ s => sTurn s) i m σ)
  | 0, i, σ, h, hA, hX, hH => by rw [zfor_end (by omega)]; exact hH
  | n + 1, i, σ, h, hA, hX, hH => by
    rw [zfor_step (by omega)]
    exact zH_ts0 m n (i + 1) _ (by omega) (zA_turn hA).1 (zX_turn hA hX) (zH_turn hA hX hH)
theorem zH_ts {σ : zS} (hA : zA σ) (hX : zX σ) (hH : zH σ) {t : Int} (ht : 0 ≤ t) : zH (sTs t σ) := zH_ts0 t t.toNat 0 σ (by omega) hA hX hH
theorem zH_fz {σ : zS} (hI : zI σ) (h : zH σ) {c f : Int} (hc : 0 ≤ c ∧ c < 120) : zH (sFz σ c f) := zH_le h (zI_m hI) (zI_8 hI) (fun j hj => sFz_o (by omega)) (fun d q1 q2 => by
  by_cases e : d = c
  · subst e
    right
    unfold sFz
    rw [zu_ne (by omega), zu_at]
  · exact Or.inl (sFz_o (by omega)))
theorem zH_set {σ : zS} (hI : zI σ) (h : zH σ) {w x : Int} (hw : 0 ≤ w ∧ w ≤ 3) (hx : (if w = 0 then 0 else 1) ≤ x ∧ x ≤ sMost w) : zH (sDry (zu σ (531 + w) x)) := by
  have i2 := zI_set hI hw hx
  have h2 : zH (zu σ (531 + w) x) := zH_le h (zI_m hI) (zI_8 hI) (fun j hj => zu_ne (by omega)) (fun d q1 q2 => Or.inl (zu_ne (by omega)))
  exact zH_le h2 (zI_m i2) (zI_8 i2) (fun j hj => sDry_o _ (by omega)) (fun c q1 q2 => by
    rw [sDry_tr _ ⟨by omega, by omega⟩]
    split
    · exact Or.inr rfl
    · exact Or.inl rfl)
theorem zH_off {σ : zS} (hI : zI σ) (h : zH σ) {k : Int} (hk : 0 ≤ k ∧ k < σ 535) (hd : σ (360 + 10 * k + 3) = 0) : zH (zu σ (360 + 10 * k + 3) 2) := by
  have hm := zI_m hI
  have h8 := zI_8 hI
  have o : ∀ j : Int, j ≠ 360 + 10 * k + 3 → zu σ (360 + 10 * k + 3) 2 j = σ j := fun j q => zu_ne q
  have e5 := o 535 (by omega)
  have e7 := o 537 (by omega)
  obtain ⟨h1, h2, h3, h4⟩ := h
  refine ⟨fun a q1 q2 => ?_, fun a b q1 q2 q3 q4 q5 q6 q7 => ?_, ⟨fun r q1 q2 => ?_, fun a q1 q2 => ?_⟩, fun c q1 q2 => ?_⟩
  · rw [e5] at q2
    by_cases ha : a = k
    · subst ha
      obtain ⟨g1, g2, g3, g4, g6, g7, g9, g10⟩ := h1 a q1 q2
      have := h8 a q1 q2
      refine ⟨?_, ?_, ?_, ?_, ?_, ?_, fun j w1 w2 => ?_, ?_⟩
      · rw [zu_at, o (360 + 10 * a + 4) (by omega)]; omega
      · rw [zu_at, o (360 + 10 * a + 1) (by omega)]; omega
      · rw [o (360 + 10 * a + 5) (by omega), o (360 + 10 * a + 1) (by omega)]; exact g3
      · rw [o (360 + 10 * a + 5) (by omega), o (360 + 10 * a + 6) (by omega)]; exact g4
      · rw [o (360 + 10 * a + 7) (by omega)]; exact g6
      · rw [o (360 + 10 * a + 8) (by omega), o (360 + 10 * a + 9) (by omega)]
        rcases g7 with g7 | g7
        · exact Or.inl g7
        · rw [o (450 + 9 * a + (σ (360 + 10 * a + 8) - 1)) (by omega)]
          exact Or.inr g7
      · rw [o _ (by omega)]; exact g9 j w1 w2
      · rw [sOw_c hm e5 (fun j w1 w2 => o _ (by omega)), o (360 + 10 * a + 6) (by omega)]; exact g10
    · exact zHk_cg (h1 a q1 q2) hm e5 (fun w w1 w2 w3 => o _ (by omega)) (h8 a q1 q2) (fun j w1 w2 => o _ (by omega))
  · rw [e5] at q2 q4
    have na : a ≠ k := fun e => by subst e; rw [zu_at] at q6; exact absurd q6 (by decide)
    have nb : b ≠ k := fun e => by subst e; rw [zu_at] at q7; exact absurd q7 (by decide)
    rw [o (360 + 10 * a + 3) (by omega)] at q6
    rw [o (360 + 10 * b + 3) (by omega)] at q7
    rw [o (360 + 10 * a + 0) (by omega), o (360 + 10 * b + 0) (by omega), o (360 + 10 * a + 1) (by omega), o (360 + 10 * b + 1) (by omega)]
    exact h2 a b q1 q2 q3 q4 q5 q6 q7
  · rw [e7] at q2
    obtain ⟨a, w1, w2⟩ := h3.1 r q1 q2
    exact ⟨a, by rw [e5]; exact w1, by rw [o (360 + 10 * a + 4) (by omega)]; exact w2⟩
  · rw [e5] at q2
    rw [e7, o (360 + 10 * a + 4) (by omega)]
    exact h3.2 a q1 q2
  · rw [o _ (by omega)]
    exact h4 c q1 q2
theorem zH_come {σ : zS} (hI : zI σ) (hX : zX σ) (h : zH σ) (h8 : σ 535 ≤ 8) {lane slime : Int} (hf : sOn σ lane 0 = -5) : zH (sCome σ lane slime) := by
  have hm9 := zI_m hI
  have hm : 0 ≤ σ 535 ∧ σ 535 ≤ 8 := by omega
  have i8 := zI_8 hI
  have e5 := sCo_many (σ := σ) (lane := lane) (slime := slime) hm
  have e7 : sCome σ lane slime 537 = σ 537 := sCo_off hm (by omega)
  have hat : ∀ w : Int, 0 ≤ w → w < 10 → w ≠ 0 → w ≠ 2 → sCome σ lane slime (360 + 10 * σ 535 + w) = 0 := fun w w1 w2 w3 w4 => by
    rw [sCo_at hm ⟨w1, w2⟩, if_neg w3, if_neg w4]
  have hoth : ∀ a w : Int, 0 ≤ a → a < σ 535 → 0 ≤ w → w < 10 → sCome σ lane slime (360 + 10 * a + w) = σ (360 + 10 * a + w) := fun a w q1 q2 w1 w2 => sCo_off hm (by omega)
  have hx0 := hX.r (by omega)
  obtain ⟨h1, h2, h3, h4⟩ := h
  refine ⟨fun a q1 q2 => ?_, fun a b q1 q2 q3 q4 q5 q6 q7 => ?_, ⟨fun r q1 q2 => ?_, fun a q1 q2 => ?_⟩, fun c q1 q2 => ?_⟩
  · rw [e5] at q2
    by_cases ha : a = σ 535
    · rw [ha]
      refine ⟨?_, ?_, ?_, ?_, ?_, ?_, fun j w1 w2 => ?_, ?_⟩
      · rw [hat 3 (by decide) (by decide) (by decide) (by decide), hat 4 (by decide) (by decide) (by decide) (by decide)]; omega
      · rw [hat 3 (by decide) (by decide) (by decide) (by decide), hat 1 (by decide) (by decide) (by decide) (by decide)]; omega
      · rw [hat 5 (by decide) (by decide) (by decide) (by decide), hat 1 (by decide) (by decide) (by decide) (by decide)]
      · rw [hat 5 (by decide) (by decide) (by decide) (by decide), hat 6 (by decide) (by decide) (by decide) (by decide)]; omega
      · rw [hat 7 (by decide) (by decide) (by decide) (by decide)]; omega
      · rw [hat 8 (by decide) (by decide) (by decide) (by decide), hat 9 (by decide) (by decide) (by decide) (by decide)]
        exact Or.inl ⟨rfl, rfl⟩
      · rw [sCo_ow0 hm ⟨by omega, by omega⟩ ⟨w1, w2⟩ (Or.inl rfl)]; omega
      · rw [hat 6 (by decide) (by decide) (by decide) (by decide)]
        unfold sOw
        refine zsum_0 _ _ (fun j w1 w2 => ?_) (sCome σ lane slime 535).toNat 0 0 (by omega) (by omega)
        rw [e5] at w2
        unfold sOwG
        split
        · rfl
        · exact sCo_ow0 hm ⟨by omega, by omega⟩ ⟨w1, by omega⟩ (Or.inl rfl)
    · have ha2 : a < σ 535 := by omega
      have hob : ∀ j : Int, 0 ≤ j → j < 9 → j ≠ σ 535 → sCome σ lane slime (450 + 9 * a + j) = σ (450 + 9 * a + j) := fun j w1 w2 w3 => sCo_ow hm ⟨q1, by omega⟩ ⟨w1, w2⟩ ⟨by omega, w3⟩
      have hob0 : sCome σ lane slime (450 + 9 * a + σ 535) = 0 := sCo_ow0 hm ⟨q1, by omega⟩ ⟨by omega, by omega⟩ (Or.inr rfl)
      have hx2 := hX.2.1 a q1 ha2
      obtain ⟨g1, g2, g3, g4, g6, g7, g9, g10⟩ := h1 a q1 ha2
      refine ⟨?_, ?_, ?_, ?_, ?_, ?_, fun j w1 w2 => ?_, ?_⟩
      · rw [hoth a 3 q1 ha2 (by decide) (by decide), hoth a 4 q1 ha2 (by decide) (by decide)]; exact g1
      · rw [hoth a 3 q1 ha2 (by decide) (by decide), hoth a 1 q1 ha2 (by decide) (by decide)]; exact g2
      · rw [hoth a 5 q1 ha2 (by decide) (by decide), hoth a 1 q1 ha2 (by decide) (by decide)]; exact g3
      · rw [hoth a 5 q1 ha2 (by decide) (by decide), hoth a 6 q1 ha2 (by decide) (by decide)]; exact g4
      · rw [hoth a 7 q1 ha2 (by decide) (by decide)]; exact g6
      · rw [hoth a 8 q1 ha2 (by decide) (by decide), hoth a 9 q1 ha2 (by decide) (by decide)]
        rcases g7 with g7 | g7
        · exact Or.inl g7
        · rw [hob (σ (360 + 10 * a + 8) - 1) (by omega) (by omega) (by omega)]
          exact Or.inr g7
      · by_cases e : j = σ 535
        · rw [e, hob0]; omega
        · rw [hob j w1 w2 e]; exact g9 j w1 w2
      · rw [hoth a 6 q1 ha2 (by decide) (by decide), ← g10]
        unfold sOw
        rw [e5, zfor_last (σ 535).toNat 0 0 (by omega)]
        have hz : zsumF (sOwG (sCome σ lane slime) a) (σ 535) (zfor (zsumF (sOwG (sCome σ lane slime) a)) 0 (σ 535) 0) = zfor (zsumF (sOwG (sCome σ lane slime) a)) 0 (σ 535) 0 := by
          unfold zsumF sOwG
          rw [if_neg (by omega), hob0, Int.add_zero]
        rw [hz]
        refine zsum_c _ _ (fun j w1 w2 => ?_) hm.1 0
        unfold sOwG
        split
        · rfl
        · exact hob j w1 (by omega) (by omega)
  · rw [e5] at q2 q4
    have hrow : ∀ a : Int, 0 ≤ a → a < σ 535 → σ (360 + 10 * a + 3) = 0 → ¬ (lane = σ (360 + 10 * a + 0) ∧ 0 = σ (360 + 10 * a + 1)) := fun a w1 w2 w3 w4 => sOn_no hm.1 hf ⟨w1, w2⟩ ⟨w3, w4.1.symm, w4.2.symm⟩
    have l0 : sCome σ lane slime (360 + 10 * σ 535 + 0) = lane := by rw [sCo_at hm (w := 0) (by decide), if_pos rfl]
    have l1 := hat 1 (by decide) (by decide) (by decide) (by decide)
    by_cases ha : a = σ 535
    · have hb : b < σ 535 := by omega
      rw [hoth b 3 q3 hb (by decide) (by decide)] at q7
      rw [ha, l0, l1, hoth b 0 q3 hb (by decide) (by decide), hoth b 1 q3 hb (by decide) (by decide)]
      exact hrow b q3 hb q7
    · have ha2 : a < σ 535 := by omega
      rw [hoth a 3 q1 ha2 (by decide) (by decide)] at q6
      rw [hoth a 0 q1 ha2 (by decide) (by decide), hoth a 1 q1 ha2 (by decide) (by decide)]
      by_cases hb : b = σ 535
      · rw [hb, l0, l1]
        exact fun q => hrow a q1 ha2 q6 ⟨q.1.symm, q.2.symm⟩
      · have hb2 : b < σ 535 := by omega
        rw [hoth b 3 q3 hb2 (by decide) (by decide)] at q7
        rw [hoth b 0 q3 hb2 (by decide) (by decide), hoth b 1 q3 hb2 (by decide) (by decide)]
        exact h2 a b q1 ha2 q3 hb2 q5 q6 q7
  · rw [e7] at q2
    obtain ⟨a, w1, w2⟩ := h3.1 r q1 q2
    exact ⟨a, by rw [e5]; omega, by rw [hoth a 4 w1.1 w1.2 (by decide) (by decide)]; exact w2⟩
  · rw [e5] at q2
    rw [e7]
    by_cases ha : a = σ 535
    · rw [ha, hat 4 (by decide) (by decide) (by decide) (by decide)]
      exact hx0.1
    · rw [hoth a 4 q1 (by omega) (by decide) (by decide)]
      exact h3.2 a q1 (by omega)
  · rw [sCo_off hm (by omega)]
    exact h4 c q1 q2
/-- all that holds of a state, with a bound of its turn -/
def zHK (b : Int) (σ : zS) : Prop := zB σ ∧ zX σ ∧ zH σ ∧ σ 536 ≤ b
theorem zHK.le {a b : Int} {σ : zS} (h : zHK a σ) (hab : a ≤ b) : zHK b σ := ⟨h.1, h.2.1, h.2.2.1, Int.le_trans h.2.2.2 hab⟩
