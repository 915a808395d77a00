/-! ===== what the acts keep of the row of numbers ===== -/
def sInF (σ : zS) (w k n : Int) : Int := n + if σ (360 + 10 * k + 3) = w then 1 else 0
theorem sIn_e (σ : zS) (w : Int) : sIn σ w = zfor (sInF σ w) 0 (σ 535) 0 := rfl
theorem sInF_r (σ : zS) (w m : Int) : ∀ (n : Nat) (i a : Int), i + n = m → a ≤ zfor (sInF σ w) i m a ∧ zfor (sInF σ w) i m a ≤ a + (m - i)
  | 0, i, a, h => by rw [zfor_end (by omega)]; omega
  | n + 1, i, a, h => by
    rw [zfor_step (by omega)]
    have := sInF_r σ w m n (i + 1) (sInF σ w i a) (by omega)
    have h2 : a ≤ sInF σ w i a ∧ sInF σ w i a ≤ a + 1 := by unfold sInF; split <;> omega
    omega
theorem sInF_s (σ : zS) (w m d : Int) : ∀ (n : Nat) (i a : Int), i + n = m → zfor (sInF σ w) i m (a + d) = zfor (sInF σ w) i m a + d
  | 0, i, a, h => by rw [zfor_end (by omega), zfor_end (by omega)]
  | n + 1, i, a, h => by
    rw [zfor_step (by omega), zfor_step (a := a) (by omega)]
    rw [show sInF σ w i (a + d) = sInF σ w i a + d from by unfold sInF; omega]
    exact sInF_s σ w m d n (i + 1) _ (by omega)
theorem sInF_u (σ τ : zS) (w m k d : Int) (hd : sInF τ w k 0 = sInF σ w k 0 + d) (ho : ∀ a : Int, 0 ≤ a → a < m → a ≠ k → τ (360 + 10 * a + 3) = σ (360 + 10 * a + 3)) : ∀ (n : Nat) (i a : Int), 0 ≤ i → i + n = m → zfor (sInF τ w) i m a = zfor (sInF σ w) i m a + if i ≤ k ∧ k < m then d else 0
  | 0, i, a, h0, h => by rw [zfor_end (by omega), zfor_end (by omega), if_neg (by omega), Int.add_zero]
  | n + 1, i, a, h0, h => by
    rw [zfor_step (by omega), zfor_step (f := sInF σ w) (by omega), sInF_u σ τ w m k d hd ho n (i + 1) _ (by omega) (by omega)]
    by_cases hk : i = k
    · subst hk
      rw [if_neg (by omega), if_pos (by omega), Int.add_zero]
      rw [show sInF τ w i a = sInF σ w i a + d from by unfold sInF at hd ⊢; omega]
      exact sInF_s σ w m d n (i + 1) _ (by omega)
    · rw [show sInF τ w i a = sInF σ w i a from by unfold sInF; rw [ho i h0 (by omega) hk]]
      by_cases h2 : i + 1 ≤ k ∧ k < m
      · rw [if_pos h2, if_pos (by omega)]
      · rw [if_neg h2, if_neg (by omega)]
theorem sIn_r {σ : zS} (hm : 0 ≤ σ 535) (w : Int) : 0 ≤ sIn σ w ∧ sIn σ w ≤ σ 535 := by
  have := sInF_r σ w (σ 535) (σ 535).toNat 0 0 (by omega)
  rw [sIn_e]
  omega
theorem sIn_u {σ τ : zS} {w k d : Int} (hm : 0 ≤ σ 535) (h5 : τ 535 = σ 535) (hk : 0 ≤ k ∧ k < σ 535) (hd : sInF τ w k 0 = sInF σ w k 0 + d) (ho : ∀ a : Int, 0 ≤ a → a < σ 535 → a ≠ k → τ (360 + 10 * a + 3) = σ (360 + 10 * a + 3)) : sIn τ w = sIn σ w + d := by
  rw [sIn_e, sIn_e, h5, sInF_u σ τ w (σ 535) k d hd ho (σ 535).toNat 0 0 (by omega) (by omega), if_pos hk]
theorem sIn_c {σ τ : zS} {w : Int} (hm : 0 ≤ σ 535) (h5 : τ 535 = σ 535) (ho : ∀ a : Int, 0 ≤ a → a < σ 535 → τ (360 + 10 * a + 3) = σ (360 + 10 * a + 3)) : sIn τ w = sIn σ w := by
  rw [sIn_e, sIn_e, h5]
  refine zfor_cg (σ 535).toNat 0 0 (by omega) (fun i q1 q2 => ?_)
  funext x
  unfold sInF
  rw [ho i q1 q2]
theorem sIn_lt {σ : zS} {w k : Int} (hm : 0 ≤ σ 535 ∧ σ 535 ≤ 9) (hk : 0 ≤ k ∧ k < σ 535) (h : σ (360 + 10 * k + 3) ≠ w) : sIn σ w ≤ σ 535 - 1 := by
  have h1 := sIn_u (τ := zu σ (360 + 10 * k + 3) w) (w := w) (k := k) (d := 1) hm.1 (zu_ne (by omega)) hk (by unfold sInF; rw [zu_at, if_pos rfl, if_neg h]; rfl) (fun a q1 q2 q3 => zu_ne (by omega))
  have h2 := sIn_r (σ := zu σ (360 + 10 * k + 3) w) (by rw [zu_ne (by omega)]; exact hm.1) w
  rw [zu_ne (show (535 : Int) ≠ 360 + 10 * k + 3 by omega)] at h2
  omega
theorem zX.r {σ : zS} (h : zX σ) (hm : 0 ≤ σ 535) : 0 ≤ σ 537 ∧ σ 537 ≤ σ 535 := by
  have := sIn_r hm 1
  rw [← h.2.2.1] at this
  exact this
theorem zX_le {σ τ : zS} (h : zX σ) (hm : 0 ≤ σ 535) (h5 : τ 535 = σ 535) (h7 : τ 537 = σ 537) (ht : ∀ c : Int, 0 ≤ c → c < 120 → τ (120 + c) = σ (120 + c) ∨ τ (120 + c) = 0) (hk : ∀ k : Int, 0 ≤ k → k < σ 535 → τ (360 + 10 * k + 3) = σ (360 + 10 * k + 3) ∧ τ (360 + 10 * k + 4) = σ (360 + 10 * k + 4) ∧ (τ (360 + 10 * k + 8) = σ (360 + 10 * k + 8) ∨ τ (360 + 10 * k + 8) = 0)) : zX τ := by
  obtain ⟨x1, x2, x3, x4⟩ := h
  refine ⟨fun c q1 q2 => ?_, fun k q1 q2 => ?_, ?_, fun k q1 q2 => ?_⟩
  · have := x1 c q1 q2
    have := ht c q1 q2
    omega
  · rw [h5] at q2 ⊢
    have := x2 k q1 q2
    have := hk k q1 q2
    omega
  · rw [h7, x3, sIn_c hm h5 (fun a q1 q2 => (hk a q1 q2).1)]
  · rw [h5] at q2
    have := x4 k q1 q2
    have := hk k q1 q2
    omega
theorem zX_creep {σ : zS} {k step : Int} (h : zX σ) (ho : zOk σ k step) (hk : 0 ≤ k ∧ k < σ 535) (hd : σ (360 + 10 * k + 3) = 0) : zX (sCreep σ k step) := by
  have hr := ho.r
  have hs := ho.1.1
  unfold zIs at hs
  have hlt := sIn_lt (w := 1) ⟨by omega, by omega⟩ hk (by omega)
  have h0 := h.r (by omega)
  obtain ⟨x1, x2, x3, x4⟩ := h
  have o5 : sCreep σ k step 535 = σ 535 := sCr_off ho (by omega)
  refine ⟨fun c q1 q2 => ?_, fun a q1 q2 => ?_, ?_, fun a q1 q2 => ?_⟩
  · rw [o5]
    by_cases hc : c = sFrom σ k
    · subst hc
      rw [sCr_tr ho]
      omega
    · rw [sCr_off ho (by omega)]
      exact x1 c q1 q2
  · rw [o5] at q2 ⊢
    by_cases ha : a = k
    · subst ha
      rw [sCr_8 ho]
      have := x1 _ hr.1.1 hr.1.2
      split <;> omega
    · rw [sCr_off ho (by omega)]
      exact x2 a q1 q2
  · rw [sCr_537 ho, sIn_u (σ := σ) (w := 1) (k := k) (d := if σ (360 + 10 * k + 1) + 1 = 19 then 1 else 0) (by omega) o5 hk (by unfold sInF; rw [sCr_3 ho, hd]; split <;> simp) (fun a q1 q2 q3 => sCr_off ho (by omega)), x3]
    split <;> omega
  · rw [o5] at q2
    have := x4 a q1 q2
    by_cases ha : a = k
    · subst ha
      rw [sCr_4 ho]
      split <;> omega
    · rw [sCr_off ho (by omega)]
      exact this
theorem zX_act {σ : zS} (hI : zI σ) (h : zX σ) {k : Int} (hk : 0 ≤ k ∧ k < σ 535) : zX (sAct σ k) := by
  have hs := hI.1
  unfold zIs at hs
  unfold sAct
  split
  · rename_i hd
    split
    · rename_i hc
      have hl := sCh_lt hc
      exact zX_creep h ⟨hI, by omega, hl.1, hl.2.1⟩ hk hd
    · refine zX_le h (by omega) (sRs_off (by omega) (by omega) (by omega) (by omega)) (sRs_off (by omega) (by omega) (by omega) (by omega)) (fun c q1 q2 => Or.inl (sRs_off (by omega) (by omega) (by omega) (by omega))) (fun a q1 q2 => ⟨sRs_off (by omega) (by omega) (by omega) (by omega), sRs_off (by omega) (by omega) (by omega) (by omega), ?_⟩)
      by_cases ha : a = k
      · subst ha
        exact Or.inr (sRs_8 σ a)
      · exact Or.inl (sRs_off (by omega) (by omega) (by omega) (by omega))
  · exact h
theorem zX_all0 (m : Int) (hm : m ≤ 9) : ∀ (n : Nat) (i : Int) (σ : zS), 0 ≤ i → i + n = m → zA σ → zX σ → σ 535 = m → zX (zfor (fun k s => sAct s k) i m σ)
  | 0, i, σ, h0, h, hA, hX, h5 => by rw [zfor_end (by omega)]; exact hX
  | n + 1, i, σ, h0, h, hA, hX, h5 => by
    rw [zfor_step (by omega)]
    have ha := zA_act hA (k := i) (by omega)
    exact zX_all0 m hm n (i + 1) _ (by omega) (by omega) ha.1 (zX_act hA.1 hX (by omega)) ((ha.2 535 (by omega) (by omega)).trans h5)
theorem zX_dry {σ : zS} (h : zX σ) (hm : 0 ≤ σ 535) : zX (sDry σ) := by
  refine zX_le h hm (sDry_o _ (by omega)) (sDry_o _ (by omega)) (fun c q1 q2 => ?_) (fun k q1 q2 => ⟨sDry_o _ (by omega), sDry_o _ (by omega), Or.inl (sDry_o _ (by omega))⟩)
  rw [sDry_tr σ ⟨q1, q2⟩]
  split
  · exact Or.inr rfl
  · exact Or.inl rfl
theorem zX_age {σ : zS} (h : zX σ) (hm : 0 ≤ σ 535) : zX (sAge σ) := zX_le h hm (sAge_o _ (by omega)) (sAge_o _ (by omega)) (fun c q1 q2 => Or.inl (sAge_o _ (by omega))) (fun k q1 q2 => ⟨sAge_o _ (by omega), sAge_o _ (by omega), Or.inl (sAge_o _ (by omega))⟩)
theorem zX_tick {σ : zS} (h : zX σ) (hm : 0 ≤ σ 535) (h9 : σ 535 ≤ 9) : zX (sTick σ) := zX_le h hm (zu_ne (by omega)) (zu_ne (by omega)) (fun c q1 q2 => Or.inl (zu_ne (by omega))) (fun k q1 q2 => ⟨zu_ne (by omega), zu_ne (by omega), Or.inl (zu_ne (by omega))⟩)
theorem zX_grow {σ : zS} (h : zX σ) (hm : 0 ≤ σ 535) (g : Int) : zX (sGrow g σ) := zX_le h hm (sGrow_o _ _ (by omega)) (sGrow_o _ _ (by omega)) (fun c q1 q2 => Or.inl (sGrow_o _ _ (by omega))) (fun k q1 q2 => ⟨sGrow_o _ _ (by omega), sGrow_o _ _ (by omega), Or.inl (sGrow_o _ _ (by omega))⟩)
theorem zX_turn {σ : zS} (hA : zA σ) (h : zX σ) : zX (sTurn σ) := by
  have hs := hA.1.1
  unfold zIs at hs
  have h1 : zX (sAll σ) := zX_all0 (σ 535) (by omega) (σ 535).toNat 0 σ (by omega) (by omega) hA h rfl
  have e1 : sAll σ 535 = σ 535 := (zA_all hA).2 535 (by omega) (by omega)
  have h2 := zX_age h1 (by omega)
  have e2 : sAge (sAll σ) 535 = σ 535 := by rw [sAge_o _ (by omega)]; exact e1
  have h3 := zX_dry h2 (by omega)
  have e3 : sDry (sAge (sAll σ)) 535 = σ 535 := by rw [sDry_o _ (by omega)]; exact e2
  have h4 := zX_tick h3 (by omega) (by omega)
  have e4 : sTick (sDry (sAge (sAll σ))) 535 = σ 535 := by rw [show sTick (sDry (sAge (sAll σ))) 535 = sDry (sAge (sAll σ)) 535 from zu_ne (by omega)]; exact e3
  exact zX_grow h4 (by omega) _
theorem zX_ts0 (m : Int) : ∀ (n : Nat) (i : Int) (σ : zS), i + n = m → zA σ → zX σ → zX (zfor (fun _ s => sTurn s) i m σ)
  | 0, i, σ, h, hA, hX => by rw [zfor_end (by omega)]; exact hX
  | n + 1, i, σ, h, hA, hX => by
    rw [zfor_step (by omega)]
    exact zX_ts0 m n (i + 1) _ (by omega) (zA_turn hA).1 (zX_turn hA hX)
theorem zX_ts {σ : zS} (hA : zA σ) (hX : zX σ) {t : Int} (ht : 0 ≤ t) : zX (sTs t σ) := zX_ts0 t t.toNat 0 σ (by omega) hA hX
theorem zX_fz {σ : zS} (h : zX σ) (hm : 0 ≤ σ 535) {c f : Int} (hc : 0 ≤ c ∧ c < 120) : zX (sFz σ c f) := by
  refine zX_le h hm (sFz_o (by omega)) (sFz_o (by omega)) (fun d q1 q2 => ?_) (fun k q1 q2 => ⟨sFz_o (by omega), sFz_o (by omega), Or.inl (sFz_o (by omega))⟩)
  by_cases hd : d = c
  · subst hd
    right
    unfold sFz
    rw [zu_ne (by omega), zu_at]
  · exact Or.inl (sFz_o (by omega))
theorem zX_set {σ : zS} (h : zX σ) (hm : 0 ≤ σ 535) (h9 : σ 535 ≤ 9) {w x : Int} (hw : 0 ≤ w ∧ w ≤ 3) : zX (sDry (zu σ (531 + w) x)) := by
  have h1 : zX (zu σ (531 + w) x) := zX_le h hm (zu_ne (by omega)) (zu_ne (by omega)) (fun c q1 q2 => Or.inl (zu_ne (by omega))) (fun k q1 q2 => ⟨zu_ne (by omega), zu_ne (by omega), Or.inl (zu_ne (by omega))⟩)
  exact zX_dry h1 (by rw [zu_ne (by omega)]; exact hm)
theorem zX_off {σ : zS} (h : zX σ) (hm : 0 ≤ σ 535) (h9 : σ 535 ≤ 9) {k : Int} (hk : 0 ≤ k ∧ k < σ 535) (hd : σ (360 + 10 * k + 3) = 0) : zX (zu σ (360 + 10 * k + 3) 2) := by
  obtain ⟨x1, x2, x3, x4⟩ := h
  have e5 : zu σ (360 + 10 * k + 3) 2 535 = σ 535 := zu_ne (by omega)
  refine ⟨fun c q1 q2 => ?_, fun a q1 q2 => ?_, ?_, fun a q1 q2 => ?_⟩
  · rw [e5, zu_ne (by omega)]; exact x1 c q1 q2
  · rw [e5] at q2 ⊢
    rw [zu_ne (by omega)]; exact x2 a q1 q2
  · rw [zu_ne (by omega), x3, sIn_u (σ := σ) (w := 1) (k := k) (d := 0) hm e5 hk (by unfold sInF; rw [zu_at, hd]; rfl) (fun a q1 q2 q3 => zu_ne (by omega)), Int.add_zero]
  · rw [e5] at q2
    rw [zu_ne (by omega)]; exact x4 a q1 q2
theorem zX_come {σ : zS} (h : zX σ) (hm : 0 ≤ σ 535 ∧ σ 535 ≤ 8) (lane slime : Int) : zX (sCome σ lane slime) := by
  obtain ⟨x1, x2, x3, x4⟩ := h
  have e5 := sCo_many (lane := lane) (slime := slime) hm
  refine ⟨fun c q1 q2 => ?_, fun a q1 q2 => ?_, ?_, fun a q1 q2 => ?_⟩
  · have := x1 c q1 q2
    rw [e5, sCo_off hm (by omega)]; omega
  · rw [e5] at q2 ⊢
    by_cases ha : a = σ 535
    · subst ha
      rw [sCo_at hm (w := 8) (by omega), if_neg (by omega), if_neg (by omega)]; omega
    · have := x2 a q1 (by omega)
      rw [sCo_off hm (by omega)]; omega
  · rw [sCo_off hm (by omega), x3, sIn_e, sIn_e, e5, zfor_cut (f := sInF (sCome σ lane slime) 1) (j := σ 535) (by omega) (fun i q1 q2 x => by
      have hi : i = σ 535 := by omega
      subst hi
      unfold sInF
      rw [sCo_at hm (w := 3) (by omega)]
      simp) (σ 535 + 1).toNat 0 0 (by omega)]
    refine zfor_cg (σ 535).toNat 0 0 (by omega) (fun i q1 q2 => ?_)
    funext x
    unfold sInF
    rw [sCo_off hm (by omega)]
  · rw [e5] at q2
    by_cases ha : a = σ 535
    · subst ha
      rw [sCo_at hm (w := 4) (by omega), if_neg (by omega), if_neg (by omega)]; omega
    · have := x4 a q1 (by omega)
      rw [sCo_off hm (by omega)]; exact this

