theorem zI_fr {σ : zS} (hI : zI σ) {c v : Int} (hc : 0 ≤ c ∧ c < 120) (hv : 0 ≤ v ∧ v ≤ 9) : zI (zu σ c v) := by
  refine zI_off hI (fun j h1 h2 => zu_ne (by omega)) (fun d h1 h2 => ?_)
  have hd := hI.2.1 d h1 h2
  unfold zIc at hd ⊢
  rw [zu_ne (show 120 + d ≠ c by omega), zu_ne (show 240 + d ≠ c by omega)]
  by_cases he : d = c
  · subst he
    rw [zu_at]
    omega
  · rw [zu_ne he]
    exact hd
theorem zI_tr {σ : zS} (hI : zI σ) {c v : Int} (hc : 0 ≤ c ∧ c < 120) (hv : 0 ≤ v ∧ v ≤ 9) : zI (zu σ (120 + c) v) := by
  refine zI_off hI (fun j h1 h2 => zu_ne (by omega)) (fun d h1 h2 => ?_)
  have hd := hI.2.1 d h1 h2
  unfold zIc at hd ⊢
  rw [zu_ne (show d ≠ 120 + c by omega), zu_ne (show 240 + d ≠ 120 + c by omega)]
  by_cases he : d = c
  · subst he
    rw [zu_at]
    omega
  · rw [zu_ne (show 120 + d ≠ 120 + c by omega)]
    exact hd
theorem zI_ag {σ : zS} (hI : zI σ) {c v : Int} (hc : 0 ≤ c ∧ c < 120) (hv : 0 ≤ v ∧ v ≤ 100) : zI (zu σ (240 + c) v) := by
  refine zI_off hI (fun j h1 h2 => zu_ne (by omega)) (fun d h1 h2 => ?_)
  have hd := hI.2.1 d h1 h2
  unfold zIc at hd ⊢
  rw [zu_ne (show d ≠ 240 + c by omega), zu_ne (show 120 + d ≠ 240 + c by omega)]
  by_cases he : d = c
  · subst he
    rw [zu_at]
    omega
  · rw [zu_ne (show 240 + d ≠ 240 + c by omega)]
    exact hd
/-- all that holds between turns -/
def zA (σ : zS) : Prop := zI σ ∧ zJ σ ∧ zZ σ
theorem zA_act {σ : zS} (h : zA σ) {k : Int} (hk : 0 ≤ k ∧ k < 9) : zA (sAct σ k) ∧ (∀ j : Int, 531 ≤ j → j < 537 → sAct σ k j = σ j) := by
  obtain ⟨hI, hJ, hZ⟩ := h
  unfold sAct
  split
  · split
    · rename_i h
      have h3 := sCh_lt h
      have ho : zOk σ k (sCh σ k) := ⟨hI, hk, h3.1, h3.2.1⟩
      have hor := ho.r
      have hs := hI.1
      unfold zIs at hs
      refine ⟨⟨zI_creep ho h3.2.2, fun c h1 h2 => ?_, fun c h1 h2 h4 => ?_⟩, fun j h1 h2 => sCr_off ho (by omega)⟩
      · rw [sCr_off ho (show _ ∨ _ ∨ (531 ≤ 531 ∧ (531 : Int) < 537) by omega)]
        by_cases he : c = sFrom σ k
        · rw [he, sCr_ag ho]
          omega
        · rw [sCr_off ho (by omega)]
          exact hJ c h1 h2
      · by_cases he : c = sFrom σ k
        · rw [he, sCr_tr ho] at h4
          omega
        · rw [sCr_off ho (by omega)] at h4
          rw [sCr_off ho (by omega)]
          exact hZ c h1 h2 h4
    · refine ⟨⟨zI_rest hI hk, fun c h1 h2 => ?_, fun c h1 h2 h4 => ?_⟩, fun j h1 h2 => sRs_off (by omega) (by omega) (by omega) (by omega)⟩
      · rw [sRs_off (by omega) (by omega) (by omega) (by omega), sRs_off (by omega) (by omega) (by omega) (by omega)]
        exact hJ c h1 h2
      · rw [sRs_off (by omega) (by omega) (by omega) (by omega)] at h4
        rw [sRs_off (by omega) (by omega) (by omega) (by omega)]
        exact hZ c h1 h2 h4
  · exact ⟨⟨hI, hJ, hZ⟩, fun j _ _ => rfl⟩
theorem zA_all0 (m : Int) : ∀ (n : Nat) (k : Int) (σ : zS), 0 ≤ k → k + n = m → m ≤ 9 → zA σ → zA (zfor (fun k s => sAct s k) k m σ) ∧ (∀ j : Int, 531 ≤ j → j < 537 → zfor (fun k s => sAct s k) k m σ j = σ j)
  | 0, k, σ, h0, h, hm, hA => by rw [zfor_end (by omega)]; exact ⟨hA, fun _ _ _ => rfl⟩
  | n + 1, k, σ, h0, h, hm, hA => by
    have h1 := zA_act hA (k := k) (by omega)
    have h2 := zA_all0 m n (k + 1) _ (by omega) (by omega) hm h1.1
    rw [zfor_step (by omega)]
    exact ⟨h2.1, fun j q1 q2 => by rw [h2.2 j q1 q2]; exact h1.2 j q1 q2⟩
theorem zA_all {σ : zS} (hA : zA σ) : zA (sAll σ) ∧ (∀ j : Int, 531 ≤ j → j < 537 → sAll σ j = σ j) := by
  have hs := hA.1.1
  unfold zIs at hs
  exact zA_all0 (σ 535) (σ 535).toNat 0 σ (by omega) (by omega) (by omega) hA
theorem zZ_age {σ : zS} (hI : zI σ) (hZ : zZ σ) : zZ (sAge σ) := by
  intro c h1 h2 h3
  rw [sAge_o σ (by omega)] at h3
  rw [sAge_ag σ ⟨h1, h2⟩, hZ c h1 h2 h3, h3]
  rfl
theorem zA_dry {σ : zS} (hI : zI σ) (hZ : zZ σ) : zA (sDry σ) := ⟨zI_dry hI, (zJ_dry hI hZ).1, (zJ_dry hI hZ).2⟩
theorem zA_tick {σ : zS} (h : zA σ) : zA (sTick σ) := by
  refine ⟨zI_tick h.1, fun c h1 h2 => ?_, fun c h1 h2 h3 => ?_⟩
  · unfold sTick
    rw [zu_ne (by omega), zu_ne (by omega)]
    exact h.2.1 c h1 h2
  · unfold sTick at h3 ⊢
    rw [zu_ne (by omega)] at h3 ⊢
    exact h.2.2 c h1 h2 h3
theorem zA_grow {σ : zS} (h : zA σ) (g : Int) : zA (sGrow g σ) := by
  refine ⟨zI_grow h.1 g, fun c h1 h2 => ?_, fun c h1 h2 h3 => ?_⟩
  · rw [sGrow_o g σ (by omega), sGrow_o g σ (by omega)]
    exact h.2.1 c h1 h2
  · rw [sGrow_o g σ (by omega)] at h3 ⊢
    exact h.2.2 c h1 h2 h3
theorem zA_turn {σ : zS} (h : zA σ) : zA (sTurn σ) ∧ sTurn σ 536 = σ 536 + 1 ∧ (∀ j : Int, 531 ≤ j → j < 536 → sTurn σ j = σ j) := by
  have h1 := zA_all h
  have h2 : zA (sDry (sAge (sAll σ))) := zA_dry (zI_age h1.1.1 h1.1.2.1) (zZ_age h1.1.1 h1.1.2.2)
  have e : ∀ j : Int, 531 ≤ j → j < 537 → sDry (sAge (sAll σ)) j = σ j := fun j q1 q2 => by rw [sDry_o _ (by omega), sAge_o _ (by omega)]; exact h1.2 j q1 q2
  refine ⟨zA_grow (zA_tick h2) _, ?_, fun j q1 q2 => ?_⟩
  · unfold sTurn
    rw [sGrow_o _ _ (by omega)]
    unfold sTick
    rw [zu_at, e 536 (by omega) (by omega)]
  · unfold sTurn
    rw [sGrow_o _ _ (by omega)]
    unfold sTick
    rw [zu_ne (by omega), e j q1 (by omega)]
/-- turns, one after the other -/
def sTs (t : Int) (σ : zS) : zS := zfor (fun _ s => sTurn s) 0 t σ
theorem zA_ts0 (m : Int) : ∀ (n : Nat) (i : Int) (σ : zS), 0 ≤ i → i + n = m → zA σ → zA (zfor (fun _ s => sTurn s) i m σ) ∧ zfor (fun _ s => sTurn s) i m σ 536 = σ 536 + (m - i) ∧ (∀ j : Int, 531 ≤ j → j < 536 → zfor (fun _ s => sTurn s) i m σ j = σ j)
  | 0, i, σ, h0, h, hA => by rw [zfor_end (by omega)]; exact ⟨hA, by omega, fun _ _ _ => rfl⟩
  | n + 1, i, σ, h0, h, hA => by
    have h1 := zA_turn hA
    have h2 := zA_ts0 m n (i + 1) _ (by omega) (by omega) h1.1
    rw [zfor_step (by omega)]
    exact ⟨h2.1, by rw [h2.2.1, h1.2.1]; omega, fun j q1 q2 => by rw [h2.2.2 j q1 q2]; exact h1.2.2 j q1 q2⟩
theorem zA_ts {σ : zS} (hA : zA σ) {t : Int} (ht : 0 ≤ t) : zA (sTs t σ) ∧ sTs t σ 536 = σ 536 + t ∧ (∀ j : Int, 531 ≤ j → j < 536 → sTs t σ j = σ j) := by
  have := zA_ts0 t t.toNat 0 σ (by omega) (by omega) hA
  rw [Int.sub_zero] at this
  exact this
/-- in how many turns a snail ends, within 300 -/
def sEn (k : Int) : Nat → Int → zS → Int
  | 0, i, s => if s (360 + 10 * k + 3) = 1 then i else -5
  | m + 1, i, s => if s (360 + 10 * k + 3) = 0 then sEn k m (i + 1) (sTurn s) else if s (360 + 10 * k + 3) = 1 then i else -5
def sEnds (k i : Int) (s : zS) : Int := sEn k (300 - i).toNat i s
theorem sEnds_step {k i : Int} {s : zS} (h : i < 300) : sEnds k i s = if s (360 + 10 * k + 3) = 0 then sEnds k (i + 1) (sTurn s) else if s (360 + 10 * k + 3) = 1 then i else -5 := by
  unfold sEnds
  rw [show (300 - i).toNat = (300 - (i + 1)).toNat + 1 by omega]
  rfl
theorem sEnds_end {k i : Int} {s : zS} (h : 300 ≤ i) : sEnds k i s = if s (360 + 10 * k + 3) = 1 then i else -5 := by
  unfold sEnds
  rw [show (300 - i).toNat = 0 by omega]
  rfl
/-- one more snail -/
def sComeA (σ : zS) (k : Int) : zS := zfor (fun j s => zu s (360 + 10 * k + j) 0) 0 10 σ
def sComeB (σ : zS) (k : Int) : zS := zfor (fun j s => zu (zu s (450 + 9 * k + j) 0) (450 + 9 * j + k) 0) 0 9 σ
def sComeC (σ : zS) (k lane slime : Int) : zS := zu (zu σ (360 + 10 * k + 0) lane) (360 + 10 * k + 2) slime
def sComeD (σ : zS) : zS := zu σ 535 (σ 535 + 1)
def sCome (σ : zS) (lane slime : Int) : zS := sComeD (sComeC (sComeB (sComeA σ (σ 535)) (σ 535)) (σ 535) lane slime)
/-- frost set -/
def sFz (σ : zS) (c f : Int) : zS := zu (zu (zu σ c f) (120 + c) 0) (240 + c) 0
def sBarF (σ : zS) (lane row f : Int) : Int := if ¬ ((0 ≤ lane ∧ lane ≤ 5) ∧ (0 ≤ row ∧ row ≤ 19)) then -1 else if ¬ (0 ≤ f ∧ f ≤ 9) then -2 else if σ (6 * row + lane) = f ∧ σ (120 + (6 * row + lane)) = 0 then -5 else 0
def sBarT (σ : zS) (t : Int) : Int := if ¬ (1 ≤ t ∧ t ≤ 99) then -2 else if σ 536 + t > 99999 then -3 else 0
/-! what lies outside the row stays -/
def zo (σ τ : zS) : Prop := ∀ j : Int, (j < 0 ∨ 538 ≤ j) → τ j = σ j
theorem zo.tr {σ τ ρ : zS} (h1 : zo σ τ) (h2 : zo τ ρ) : zo σ ρ := fun j hj => (h2 j hj).trans (h1 j hj)
theorem zo.rf (σ : zS) : zo σ σ := fun _ _ => rfl
theorem zo_zu {σ : zS} {i v : Int} (h : 0 ≤ i ∧ i < 538) : zo σ (zu σ i v) := fun j hj => zu_ne (by omega)
theorem zo_creep {σ : zS} {k step : Int} (h : zOk σ k step) : zo σ (sCreep σ k step) := by
  intro j hj
  have hk := h.2.1
  have hr := h.r
  rw [sCreep_e h, sC6_off (by omega) (by omega) (by omega), sC5_off (by omega), sC4_off (by omega) (by omega) (by omega), sX_off (by omega) (by omega) (by omega) (by omega) (by omega) (by omega) h]
theorem zo_act {σ : zS} (hI : zI σ) {k : Int} (hk : 0 ≤ k ∧ k < 9) : zo σ (sAct σ k) := by
  unfold sAct
  split
  · split
    · rename_i h
      have h3 := sCh_lt h
      exact zo_creep ⟨hI, hk, h3.1, h3.2.1⟩
    · intro j hj
      exact sRs_off (by omega) (by omega) (by omega) (by omega)
  · exact zo.rf σ
theorem zo_all0 (m : Int) : ∀ (n : Nat) (k : Int) (σ : zS), 0 ≤ k → k + n = m → m ≤ 9 → zA σ → zo σ (zfor (fun k s => sAct s k) k m σ)
  | 0, k, σ, h0, h, hm, hA => by rw [zfor_end (by omega)]; exact zo.rf σ
  | n + 1, k, σ, h0, h, hm, hA => by
    rw [zfor_step (by omega)]
    exact (zo_act hA.1 (by omega)).tr (zo_all0 m n (k + 1) _ (by omega) (by omega) hm (zA_act hA (by omega)).1)
theorem zo_turn {σ : zS} (hA : zA σ) : zo σ (sTurn σ) := by
  have hs := hA.1.1
  unfold zIs at hs
  have h1 : zo σ (sAll σ) := zo_all0 (σ 535) (σ 535).toNat 0 σ (by omega) (by omega) (by omega) hA
  intro j hj
  unfold sTurn
  rw [sGrow_o _ _ (by omega)]
  unfold sTick
  rw [zu_ne (by omega), sDry_o _ (by omega), sAge_o _ (by omega), h1 j hj]
theorem zo_ts0 (m : Int) : ∀ (n : Nat) (i : Int) (σ : zS), 0 ≤ i → i + n = m → zA σ → zo σ (zfor (fun _ s => sTurn s) i m σ)
  | 0, i, σ, h0, h, hA => by rw [zfor_end (by omega)]; exact zo.rf σ
  | n + 1, i, σ, h0, h, hA => by
    rw [zfor_step (by omega)]
    exact (zo_turn hA).tr (zo_ts0 m n (i + 1) _ (by omega) (by omega) (zA_turn hA).1)
theorem zo_ts {σ : zS} (hA : zA σ) {t : Int} (ht : 0 ≤ t) : zo σ (sTs t σ) := zo_ts0 t t.toNat 0 σ (by omega) (by omega) hA
theorem zo_comeA0 (m : Int) (hm : 0 ≤ m ∧ m ≤ 8) : ∀ (n : Nat) (i : Int) (σ : zS), 0 ≤ i → i + n = 10 → zo σ (zfor (fun j s => zu s (360 + 10 * m + j) 0) i 10 σ)
  | 0, i, σ, h0, h => by rw [zfor_end (by omega)]; exact zo.rf σ
  | n + 1, i, σ, h0, h => by
    rw [zfor_step (by omega)]
    exact (zo_zu (by omega)).tr (zo_comeA0 m hm n (i + 1) _ (by omega) (by omega))
theorem zo_comeB0 (m : Int) (hm : 0 ≤ m ∧ m ≤ 8) : ∀ (n : Nat) (i : Int) (σ : zS), 0 ≤ i → i + n = 9 → zo σ (zfor (fun j s => zu (zu s (450 + 9 * m + j) 0) (450 + 9 * j + m) 0) i 9 σ)
  | 0, i, σ, h0, h => by rw [zfor_end (by omega)]; exact zo.rf σ
  | n + 1, i, σ, h0, h => by
    rw [zfor_step (by omega)]
    exact ((zo_zu (by omega)).tr (zo_zu (by omega))).tr (zo_comeB0 m hm n (i + 1) _ (by omega) (by omega))
theorem zo_come {σ : zS} {lane slime : Int} (hm : 0 ≤ σ 535 ∧ σ 535 ≤ 8) : zo σ (sCome σ lane slime) := by
  unfold sCome sComeD sComeC sComeB sComeA
  exact (((zo_comeA0 _ hm 10 0 σ (by omega) (by omega)).tr (zo_comeB0 _ hm 9 0 _ (by omega) (by omega))).tr ((zo_zu (by omega)).tr (zo_zu (by omega)))).tr (zo_zu (by omega))

