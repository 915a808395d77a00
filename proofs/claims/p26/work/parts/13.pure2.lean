theorem sC6_3 (σ : zS) (k : Int) : sC6 σ k (360 + 10 * k + 3) = if σ (360 + 10 * k + 1) = 19 then 1 else σ (360 + 10 * k + 3) := by
  unfold sC6 sC7
  split
  · rw [zu_ne (by omega), zu_at]
  · rfl
theorem sC6_4 (σ : zS) {k : Int} (hk : 0 ≤ k ∧ k < 9) : sC6 σ k (360 + 10 * k + 4) = if σ (360 + 10 * k + 1) = 19 then σ 537 + 1 else σ (360 + 10 * k + 4) := by
  unfold sC6 sC7
  split
  · rw [zu_at, zu_ne (by omega), zu_at]
  · rfl
theorem sC6_537 (σ : zS) {k : Int} (hk : 0 ≤ k ∧ k < 9) : sC6 σ k 537 = if σ (360 + 10 * k + 1) = 19 then σ 537 + 1 else σ 537 := by
  unfold sC6 sC7
  split
  · rw [zu_ne (by omega), zu_ne (by omega), zu_at]
  · rfl
theorem sC3_8 {σ : zS} {k y w : Int} (hk : 0 ≤ k ∧ k < 9) (hw : 0 ≤ w ∧ w ≤ 9) : sC3 σ k y w (360 + 10 * k + 8) = if y = 0 then w else 0 := by
  unfold sC3 sCrD sCrC sCrA
  split
  · rw [zu_ne (by omega), zu_ne (by omega), zu_at]
  · rw [zu_ne (by omega), zu_at]
theorem sC3_9 {σ : zS} {k y w : Int} (hk : 0 ≤ k ∧ k < 9) (hw : 0 ≤ w ∧ w ≤ 9) : sC3 σ k y w (360 + 10 * k + 9) = if y = 0 then (if σ (360 + 10 * k + 8) = w then σ (360 + 10 * k + 9) + 1 else 1) else 0 := by
  unfold sC3 sCrD sCrC sCrA
  split
  · rw [zu_ne (by omega), zu_ne (by omega), zu_ne (by omega), zu_at]
  · rw [zu_at]
theorem sC3_6 {σ : zS} {k y w : Int} (hk : 0 ≤ k ∧ k < 9) (hw : 0 ≤ w ∧ w ≤ 9) : sC3 σ k y w (360 + 10 * k + 6) = σ (360 + 10 * k + 6) + if y = 0 then 1 else 0 := by
  unfold sC3 sCrD sCrC sCrA
  split
  · rw [zu_ne (by omega), zu_at, zu_ne (by omega), zu_ne (by omega)]
  · rw [zu_ne (by omega), zu_ne (by omega), Int.add_zero]
theorem sC3_ow {σ : zS} {k y w a b : Int} (hk : 0 ≤ k ∧ k < 9) (hw : 0 ≤ w ∧ w ≤ 9) (h1 : y = 0 → 1 ≤ w) (ha : 0 ≤ a ∧ a < 9) (hb : 0 ≤ b ∧ b < 9) : sC3 σ k y w (450 + 9 * a + b) = σ (450 + 9 * a + b) + if y = 0 ∧ a = k ∧ b = w - 1 then 1 else 0 := by
  unfold sC3 sCrD sCrC sCrA
  by_cases hy : y = 0
  · have := h1 hy
    rw [if_pos hy]
    by_cases h : a = k ∧ b = w - 1
    · obtain ⟨rfl, rfl⟩ := h
      rw [if_pos (show y = 0 ∧ a = a ∧ w - 1 = w - 1 from ⟨hy, rfl, rfl⟩), show 450 + 9 * a + (w - 1) = 450 + 9 * a + w - 1 by omega, zu_at, zu_ne (by omega), zu_ne (by omega), zu_ne (by omega)]
    · rw [if_neg (show ¬ (y = 0 ∧ a = k ∧ b = w - 1) by omega), zu_ne (by omega), zu_ne (by omega), zu_ne (by omega), zu_ne (by omega), Int.add_zero]
  · rw [if_neg hy, if_neg (show ¬ (y = 0 ∧ a = k ∧ b = w - 1) by omega), zu_ne (by omega), zu_ne (by omega), Int.add_zero]
/-- what is asked of a step -/
def zOk (σ : zS) (k step : Int) : Prop := zI σ ∧ (0 ≤ k ∧ k < 9) ∧ (0 ≤ step ∧ step ≤ 2) ∧ sPr σ k step ≠ -5
theorem zOk.r {σ : zS} {k step : Int} (h : zOk σ k step) : (0 ≤ sTo σ k step ∧ sTo σ k step < 120) ∧ (0 ≤ sFrom σ k ∧ sFrom σ k < 114) ∧ (0 ≤ σ (120 + sTo σ k step) ∧ σ (120 + sTo σ k step) ≤ 9) ∧ (sWhy σ k (sTo σ k step) = 0 → 1 ≤ σ (120 + sTo σ k step)) ∧ σ (360 + 10 * k + 1) ≤ 18 ∧ (0 ≤ sLn (σ (360 + 10 * k + 0)) step ∧ sLn (σ (360 + 10 * k + 0)) step ≤ 5) := by
  obtain ⟨hI, hk, hs, hp⟩ := h
  have h1 := sPr_ok hp
  have h2 := hI.2.2 k hk.1 hk.2
  unfold zIk at h2
  have h3 : 0 ≤ sTo σ k step ∧ sTo σ k step < 120 := by unfold sTo; omega
  have h4 := hI.2.1 _ h3.1 h3.2
  unfold zIc at h4
  refine ⟨h3, by unfold sFrom; omega, by omega, fun q => ?_, by omega, h1.1⟩
  unfold sWhy at q
  split at q <;> omega
def sX (σ : zS) (k step : Int) : zS := sC3 (sC2 (sC1 σ k step) k) k (sWhy σ k (sTo σ k step)) (σ (120 + sTo σ k step))
theorem sCreep_e {σ : zS} {k step : Int} (h : zOk σ k step) : sCreep σ k step = sC6 (sC5 (sC4 (sX σ k step) k (sFrom σ k) (sLn (σ (360 + 10 * k + 0)) step)) k) k := by
  have hr := h.r
  have hk := h.2.1
  unfold sCreep sX
  rw [show (sC2 (sC1 σ k step) k) (120 + sTo σ k step) = σ (120 + sTo σ k step) from sC21_off (by omega) (by omega)]
theorem sX_off {σ : zS} {k step j : Int} (h1 : j ≠ 360 + 10 * k + 2) (h2 : j ≠ 360 + 10 * k + 5) (h3 : j ≠ 360 + 10 * k + 6) (h4 : j ≠ 360 + 10 * k + 8) (h5 : j ≠ 360 + 10 * k + 9) (h6 : j < 450 ∨ 531 ≤ j) (h : zOk σ k step) : sX σ k step j = σ j := by
  have hr := h.r
  have hk := h.2.1
  unfold sX
  by_cases hy : sWhy σ k (sTo σ k step) = 0
  · have := hr.2.2.2.1 hy
    rw [sC3_off h3 h4 h5 (by omega), sC21_off h1 h2]
  · unfold sC3
    rw [if_neg hy, zu_ne h5, zu_ne h4, sC21_off h1 h2]
section CRV
variable {σ : zS} {k step : Int}
theorem sCr_row0 (h : zOk σ k step) : sC5 (sC4 (sX σ k step) k (sFrom σ k) (sLn (σ (360 + 10 * k + 0)) step)) k (360 + 10 * k + 1) = σ (360 + 10 * k + 1) + 1 := by
  have hr := h.r
  have hk := h.2.1
  unfold sC5
  rw [zu_at, sC4_off (by omega) (by omega) (by omega), sX_off (by omega) (by omega) (by omega) (by omega) (by omega) (by omega) h]
theorem sCr_0 (h : zOk σ k step) : sCreep σ k step (360 + 10 * k + 0) = sLn (σ (360 + 10 * k + 0)) step := by
  have hk := h.2.1
  rw [sCreep_e h, sC6_off (by omega) (by omega) (by omega), sC5_off (by omega)]
  exact zu_at
theorem sCr_1 (h : zOk σ k step) : sCreep σ k step (360 + 10 * k + 1) = σ (360 + 10 * k + 1) + 1 := by
  have hk := h.2.1
  rw [sCreep_e h, sC6_off (by omega) (by omega) (by omega), sCr_row0 h]
theorem sCr_2 (h : zOk σ k step) : sCreep σ k step (360 + 10 * k + 2) = σ (360 + 10 * k + 2) - sPr σ k step := by
  have hk := h.2.1
  have hr := h.r
  rw [sCreep_e h, sC6_off (by omega) (by omega) (by omega), sC5_off (by omega), sC4_off (by omega) (by omega) (by omega)]
  unfold sX
  by_cases hy : sWhy σ k (sTo σ k step) = 0
  · have := hr.2.2.2.1 hy
    rw [sC3_off (by omega) (by omega) (by omega) (by omega)]
    unfold sC2 sC1
    rw [zu_ne (by omega), zu_at]
  · unfold sC3
    rw [if_neg hy, zu_ne (by omega), zu_ne (by omega)]
    unfold sC2 sC1
    rw [zu_ne (by omega), zu_at]
theorem sCr_3 (h : zOk σ k step) : sCreep σ k step (360 + 10 * k + 3) = if σ (360 + 10 * k + 1) + 1 = 19 then 1 else σ (360 + 10 * k + 3) := by
  have hk := h.2.1
  have hr := h.r
  rw [sCreep_e h, sC6_3, sCr_row0 h, sC5_off (by omega), sC4_off (by omega) (by omega) (by omega), sX_off (by omega) (by omega) (by omega) (by omega) (by omega) (by omega) h]
theorem sCr_4 (h : zOk σ k step) : sCreep σ k step (360 + 10 * k + 4) = if σ (360 + 10 * k + 1) + 1 = 19 then σ 537 + 1 else σ (360 + 10 * k + 4) := by
  have hk := h.2.1
  have hr := h.r
  rw [sCreep_e h, sC6_4 _ hk, sCr_row0 h, sC5_off (by omega), sC4_off (by omega) (by omega) (by omega), sX_off (by omega) (by omega) (by omega) (by omega) (by omega) (by omega) h, sC5_off (by omega), sC4_off (by omega) (by omega) (by omega), sX_off (by omega) (by omega) (by omega) (by omega) (by omega) (by omega) h]
theorem sCr_537 (h : zOk σ k step) : sCreep σ k step 537 = if σ (360 + 10 * k + 1) + 1 = 19 then σ 537 + 1 else σ 537 := by
  have hk := h.2.1
  have hr := h.r
  rw [sCreep_e h, sC6_537 _ hk, sCr_row0 h, sC5_off (by omega), sC4_off (by omega) (by omega) (by omega), sX_off (by omega) (by omega) (by omega) (by omega) (by omega) (by omega) h]
theorem sCr_5 (h : zOk σ k step) : sCreep σ k step (360 + 10 * k + 5) = σ (360 + 10 * k + 5) + 1 := by
  have hk := h.2.1
  have hr := h.r
  rw [sCreep_e h, sC6_off (by omega) (by omega) (by omega), sC5_off (by omega), sC4_off (by omega) (by omega) (by omega)]
  unfold sX
  by_cases hy : sWhy σ k (sTo σ k step) = 0
  · have := hr.2.2.2.1 hy
    rw [sC3_off (by omega) (by omega) (by omega) (by omega)]
    unfold sC2 sC1
    rw [zu_at, zu_ne (by omega)]
  · unfold sC3
    rw [if_neg hy, zu_ne (by omega), zu_ne (by omega)]
    unfold sC2 sC1
    rw [zu_at, zu_ne (by omega)]
theorem sCr_6 (h : zOk σ k step) : sCreep σ k step (360 + 10 * k + 6) = σ (360 + 10 * k + 6) + if sWhy σ k (sTo σ k step) = 0 then 1 else 0 := by
  have hk := h.2.1
  have hr := h.r
  rw [sCreep_e h, sC6_off (by omega) (by omega) (by omega), sC5_off (by omega), sC4_off (by omega) (by omega) (by omega)]
  unfold sX
  rw [sC3_6 hk (by omega), sC21_off (by omega) (by omega)]
theorem sCr_7 (h : zOk σ k step) : sCreep σ k step (360 + 10 * k + 7) = σ (360 + 10 * k + 7) := by
  have hk := h.2.1
  have hr := h.r
  rw [sCreep_e h, sC6_off (by omega) (by omega) (by omega), sC5_off (by omega), sC4_off (by omega) (by omega) (by omega), sX_off (by omega) (by omega) (by omega) (by omega) (by omega) (by omega) h]
theorem sCr_8 (h : zOk σ k step) : sCreep σ k step (360 + 10 * k + 8) = if sWhy σ k (sTo σ k step) = 0 then σ (120 + sTo σ k step) else 0 := by
  have hk := h.2.1
  have hr := h.r
  rw [sCreep_e h, sC6_off (by omega) (by omega) (by omega), sC5_off (by omega), sC4_off (by omega) (by omega) (by omega)]
  unfold sX
  rw [sC3_8 hk (by omega)]
theorem sCr_9 (h : zOk σ k step) : sCreep σ k step (360 + 10 * k + 9) = if sWhy σ k (sTo σ k step) = 0 then (if σ (360 + 10 * k + 8) = σ (120 + sTo σ k step) then σ (360 + 10 * k + 9) + 1 else 1) else 0 := by
  have hk := h.2.1
  have hr := h.r
  rw [sCreep_e h, sC6_off (by omega) (by omega) (by omega), sC5_off (by omega), sC4_off (by omega) (by omega) (by omega)]
  unfold sX
  rw [sC3_9 hk (by omega), sC21_off (by omega) (by omega), sC21_off (by omega) (by omega)]
theorem sCr_ow (h : zOk σ k step) {a b : Int} (ha : 0 ≤ a ∧ a < 9) (hb : 0 ≤ b ∧ b < 9) : sCreep σ k step (450 + 9 * a + b) = σ (450 + 9 * a + b) + if sWhy σ k (sTo σ k step) = 0 ∧ a = k ∧ b = σ (120 + sTo σ k step) - 1 then 1 else 0 := by
  have hk := h.2.1
  have hr := h.r
  rw [sCreep_e h, sC6_off (by omega) (by omega) (by omega), sC5_off (by omega), sC4_off (by omega) (by omega) (by omega)]
  unfold sX
  rw [sC3_ow hk (by omega) hr.2.2.2.1 ha hb, sC21_off (by omega) (by omega)]
theorem sCr_tr (h : zOk σ k step) : sCreep σ k step (120 + sFrom σ k) = k + 1 := by
  have hk := h.2.1
  have hr := h.r
  rw [sCreep_e h, sC6_off (by omega) (by omega) (by omega), sC5_off (by omega)]
  unfold sC4
  rw [zu_ne (by omega), zu_ne (by omega), zu_at]
theorem sCr_ag (h : zOk σ k step) : sCreep σ k step (240 + sFrom σ k) = 0 := by
  have hk := h.2.1
  have hr := h.r
  rw [sCreep_e h, sC6_off (by omega) (by omega) (by omega), sC5_off (by omega)]
  unfold sC4
  rw [zu_ne (by omega), zu_at]
theorem sCr_off (h : zOk σ k step) {j : Int} (hj : (0 ≤ j ∧ j < 360 ∧ j ≠ 120 + sFrom σ k ∧ j ≠ 240 + sFrom σ k) ∨ (360 ≤ j ∧ j < 450 ∧ (j < 360 + 10 * k ∨ 370 + 10 * k ≤ j)) ∨ (531 ≤ j ∧ j < 537)) : sCreep σ k step j = σ j := by
  have hk := h.2.1
  have hr := h.r
  rw [sCreep_e h, sC6_off (by omega) (by omega) (by omega), sC5_off (by omega), sC4_off (by omega) (by omega) (by omega), sX_off (by omega) (by omega) (by omega) (by omega) (by omega) (by omega) h]
end CRV
theorem zI_creep {σ : zS} {k step : Int} (h : zOk σ k step) (hsl : sPr σ k step ≤ σ (360 + 10 * k + 2)) : zI (sCreep σ k step) := by
  have hk := h.2.1
  have hr := h.r
  obtain ⟨hI, -, -, hp⟩ := id h
  have hp2 := sPr_r hI hk step
  refine ⟨?_, fun c h1 h2 => ?_, fun a h1 h2 => ?_⟩
  · have := hI.1
    unfold zIs at this ⊢
    rw [sCr_off h (by omega), sCr_off h (by omega), sCr_off h (by omega), sCr_off h (by omega), sCr_off h (by omega)]
    exact this
  · have hc := hI.2.1 c h1 h2
    unfold zIc at hc ⊢
    rw [sCr_off h (by omega)]
    by_cases he : c = sFrom σ k
    · rw [he, sCr_tr h, sCr_ag h]
      rw [he] at hc
      omega
    · rw [sCr_off h (by omega), sCr_off h (by omega)]
      exact hc
  · have ha := hI.2.2 a h1 h2
    by_cases he : a = k
    · subst he
      unfold zIk at ha ⊢
      rw [sCr_0 h, sCr_1 h, sCr_2 h, sCr_3 h, sCr_8 h, sCr_9 h]
      repeat' split
      all_goals omega
    · unfold zIk at ha ⊢
      rw [sCr_off h (by omega), sCr_off h (by omega), sCr_off h (by omega), sCr_off h (by omega), sCr_off h (by omega), sCr_off h (by omega)]
      exact ha
theorem sRs_off {σ : zS} {k j : Int} (h1 : j ≠ 360 + 10 * k + 2) (h2 : j ≠ 360 + 10 * k + 7) (h3 : j ≠ 360 + 10 * k + 8) (h4 : j ≠ 360 + 10 * k + 9) : sRest σ k j = σ j := by
  unfold sRest sC8
  rw [zu_ne h4, zu_ne h3, zu_ne h2, zu_ne h1]
theorem sRs_2 (σ : zS) (k : Int) : sRest σ k (360 + 10 * k + 2) = if σ (360 + 10 * k + 2) + σ 533 > 99 then 99 else σ (360 + 10 * k + 2) + σ 533 := by
  unfold sRest sC8
  rw [zu_ne (by omega), zu_ne (by omega), zu_ne (by omega), zu_at]
theorem sRs_7 (σ : zS) (k : Int) : sRest σ k (360 + 10 * k + 7) = σ (360 + 10 * k + 7) + 1 := by
  unfold sRest sC8
  rw [zu_ne (by omega), zu_ne (by omega), zu_at, zu_ne (by omega)]
theorem sRs_8 (σ : zS) (k : Int) : sRest σ k (360 + 10 * k + 8) = 0 := by
  unfold sRest
  rw [zu_ne (by omega), zu_at]
theorem sRs_9 (σ : zS) (k : Int) : sRest σ k (360 + 10 * k + 9) = 0 := by
  unfold sRest
  rw [zu_at]
theorem zI_rest {σ : zS} (hI : zI σ) {k : Int} (hk : 0 ≤ k ∧ k < 9) : zI (sRest σ k) := by
  refine ⟨?_, fun c h1 h2 => ?_, fun a h1 h2 => ?_⟩
  · have := hI.1
    unfold zIs at this ⊢
    rw [sRs_off (by omega) (by omega) (by omega) (by omega), sRs_off (by omega) (by omega) (by omega) (by omega), sRs_off (by omega) (by omega) (by omega) (by omega), sRs_off (by omega) (by omega) (by omega) (by omega), sRs_off (by omega) (by omega) (by omega) (by omega)]
    exact this
  · have hc := hI.2.1 c h1 h2
    unfold zIc at hc ⊢
    rw [sRs_off (by omega) (by omega) (by omega) (by omega), sRs_off (by omega) (by omega) (by omega) (by omega), sRs_off (by omega) (by omega) (by omega) (by omega)]
    exact hc
  · have ha := hI.2.2 a h1 h2
    have hs := hI.1
    unfold zIs at hs
    by_cases he : a = k
    · subst he
      unfold zIk at ha ⊢
      rw [sRs_off (by omega) (by omega) (by omega) (by omega), sRs_off (by omega) (by omega) (by omega) (by omega), sRs_2, sRs_off (by omega) (by omega) (by omega) (by omega), sRs_8, sRs_9]
      split <;> omega
    · unfold zIk at ha ⊢
      rw [sRs_off (by omega) (by omega) (by omega) (by omega), sRs_off (by omega) (by omega) (by omega) (by omega), sRs_off (by omega) (by omega) (by omega) (by omega), sRs_off (by omega) (by omega) (by omega) (by omega), sRs_off (by omega) (by omega) (by omega) (by omega), sRs_off (by omega) (by omega) (by omega) (by omega)]
      exact ha
/-! the choice -/
theorem sCb_r0 (σ : zS) (k : Int) : ∀ (n : Nat) (i f : Int), 0 ≤ i → i + n = 3 → (f = 4 ∨ (0 ≤ f ∧ f ≤ 2 ∧ sPr σ k f ≠ -5)) → (zfor (sCs σ k) i 3 f = 4 ∨ (0 ≤ zfor (sCs σ k) i 3 f ∧ zfor (sCs σ k) i 3 f ≤ 2 ∧ sPr σ k (zfor (sCs σ k) i 3 f) ≠ -5))
  | 0, i, f, h0, h, hf => by rw [zfor_end (by omega)]; exact hf
  | n + 1, i, f, h0, h, hf => by
    rw [zfor_step (by omega)]
    refine sCb_r0 σ k n (i + 1) _ (by omega) (by omega) ?_
    unfold sCs
    split
    · rename_i q
      exact Or.inr ⟨h0, by omega, q.1⟩
    · exact hf
theorem sCb_r (σ : zS) (k : Int) : sCb σ k = 4 ∨ (0 ≤ sCb σ k ∧ sCb σ k ≤ 2 ∧ sPr σ k (sCb σ k) ≠ -5) := sCb_r0 σ k 3 0 4 (by omega) (by omega) (Or.inl rfl)
theorem sCh_lt {σ : zS} {k : Int} (h : sCh σ k < 3) : (0 ≤ sCh σ k ∧ sCh σ k ≤ 2) ∧ sPr σ k (sCh σ k) ≠ -5 ∧ sPr σ k (sCh σ k) ≤ σ (360 + 10 * k + 2) := by
  have hb := sCb_r σ k
  unfold sCh at h ⊢
  split
  · rename_i q
    rw [if_pos q] at h
    omega
  · rename_i q
    rw [if_neg q] at h
    refine ⟨by omega, ?_, ?_⟩
    · rcases hb with hb | hb
      · omega
      · exact hb.2.2
    · omega
theorem sCh_r (σ : zS) (k : Int) : 0 ≤ sCh σ k ∧ sCh σ k ≤ 4 := by
  have hb := sCb_r σ k
  unfold sCh
  split <;> omega
