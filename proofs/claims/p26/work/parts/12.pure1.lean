/-! ===== the rules: what they leave of the row of numbers ===== -/
/-- what a snail does in a turn; the turn -/
def sAct (σ : zS) (k : Int) : zS := if σ (360 + 10 * k + 3) = 0 then (if sCh σ k < 3 then sCreep σ k (sCh σ k) else sRest σ k) else σ
def sAll (σ : zS) : zS := zfor (fun k s => sAct s k) 0 (σ 535) σ
def sAgeF (c : Int) (s : zS) : zS := zu s (240 + c) (s (240 + c) + if s (120 + c) > 0 then 1 else 0)
def sAge (σ : zS) : zS := zfor sAgeF 0 120 σ
def sDryF (c : Int) (s : zS) : zS := if s (120 + c) > 0 ∧ s (240 + c) > s 531 then zu (zu s (120 + c) 0) (240 + c) 0 else s
def sDry (σ : zS) : zS := zfor sDryF 0 120 σ
def sTick (σ : zS) : zS := zu σ 536 (σ 536 + 1)
def sGrowF (g c : Int) (s : zS) : zS := zu s (0 + c) (s (0 + c) + if g = 1 ∧ s (120 + c) = 0 ∧ s (0 + c) < 9 then 1 else 0)
def sGrow (g : Int) (σ : zS) : zS := zfor (sGrowF g) 0 120 σ
def sG (σ : zS) : Int := if σ 536 % σ 534 = 0 then 1 else 0
def sTurn (σ : zS) : zS := sGrow (sG (sTick (sDry (sAge (sAll σ))))) (sTick (sDry (sAge (sAll σ))))
theorem sAge_at0 (j : Int) : ∀ (n : Nat) (i : Int) (s : zS), 0 ≤ i → i + n = 120 → zfor sAgeF i 120 s j = if 240 + i ≤ j ∧ j < 360 then s j + (if s (j - 120) > 0 then 1 else 0) else s j
  | 0, i, s, h0, h => by rw [zfor_end (by omega), if_neg (by omega)]
  | n + 1, i, s, h0, h => by
    rw [zfor_step (by omega), sAge_at0 j n (i + 1) _ (by omega) (by omega)]
    unfold sAgeF
    by_cases hj : j = 240 + i
    · subst hj
      rw [if_neg (show ¬ (240 + (i + 1) ≤ 240 + i ∧ 240 + i < 360) by omega), if_pos (show 240 + i ≤ 240 + i ∧ 240 + i < 360 by omega), zu_at, show 240 + i - 120 = 120 + i by omega]
    · rw [zu_ne hj]
      by_cases h2 : 240 + i ≤ j ∧ j < 360
      · rw [if_pos h2, if_pos (show 240 + (i + 1) ≤ j ∧ j < 360 by omega), zu_ne (by omega)]
      · rw [if_neg h2, if_neg (show ¬ (240 + (i + 1) ≤ j ∧ j < 360) by omega)]
theorem sAge_at (σ : zS) (j : Int) : sAge σ j = if 240 ≤ j ∧ j < 360 then σ j + (if σ (j - 120) > 0 then 1 else 0) else σ j := sAge_at0 j 120 0 σ (by omega) (by omega)
theorem sDry_at0 (j : Int) : ∀ (n : Nat) (i : Int) (s : zS), 0 ≤ i → i + n = 120 → zfor sDryF i 120 s j = if 120 + i ≤ j ∧ j < 240 then (if s j > 0 ∧ s (j + 120) > s 531 then 0 else s j) else if 240 + i ≤ j ∧ j < 360 then (if s (j - 120) > 0 ∧ s j > s 531 then 0 else s j) else s j
  | 0, i, s, h0, h => by rw [zfor_end (by omega), if_neg (by omega), if_neg (by omega)]
  | n + 1, i, s, h0, h => by
    rw [zfor_step (by omega), sDry_at0 j n (i + 1) _ (by omega) (by omega)]
    unfold sDryF
    by_cases hc : s (120 + i) > 0 ∧ s (240 + i) > s 531
    · rw [if_pos hc]
      by_cases h1 : j = 120 + i
      · subst h1
        rw [if_neg (by omega), if_neg (by omega), if_pos (by omega), zu_ne (by omega), zu_at, if_pos (by rw [show 120 + i + 120 = 240 + i by omega]; exact hc)]
      · by_cases h2 : j = 240 + i
        · subst h2
          rw [if_neg (by omega), if_neg (by omega), if_neg (by omega), if_pos (by omega), zu_at, if_pos (by rw [show 240 + i - 120 = 120 + i by omega]; exact hc)]
        · rw [zu_ne h2, zu_ne h1, zu_ne (show (531 : Int) ≠ 240 + i by omega), zu_ne (show (531 : Int) ≠ 120 + i by omega)]
          by_cases h3 : 120 + (i + 1) ≤ j ∧ j < 240
          · rw [if_pos h3, if_pos (show 120 + i ≤ j ∧ j < 240 by omega), zu_ne (by omega), zu_ne (by omega)]
          · rw [if_neg h3, if_neg (show ¬ (120 + i ≤ j ∧ j < 240) by omega)]
            by_cases h4 : 240 + (i + 1) ≤ j ∧ j < 360
            · rw [if_pos h4, if_pos (show 240 + i ≤ j ∧ j < 360 by omega), zu_ne (by omega), zu_ne (by omega)]
            · rw [if_neg h4, if_neg (show ¬ (240 + i ≤ j ∧ j < 360) by omega)]
    · rw [if_neg hc]
      by_cases h1 : j = 120 + i
      · subst h1
        rw [if_neg (by omega), if_neg (by omega), if_pos (by omega), if_neg (by rw [show 120 + i + 120 = 240 + i by omega]; exact hc)]
      · by_cases h2 : j = 240 + i
        · subst h2
          rw [if_neg (by omega), if_neg (by omega), if_neg (by omega), if_pos (by omega), if_neg (by rw [show 240 + i - 120 = 120 + i by omega]; exact hc)]
        · by_cases h3 : 120 + (i + 1) ≤ j ∧ j < 240
          · rw [if_pos h3, if_pos (show 120 + i ≤ j ∧ j < 240 by omega)]
          · rw [if_neg h3, if_neg (show ¬ (120 + i ≤ j ∧ j < 240) by omega)]
            by_cases h4 : 240 + (i + 1) ≤ j ∧ j < 360
            · rw [if_pos h4, if_pos (show 240 + i ≤ j ∧ j < 360 by omega)]
            · rw [if_neg h4, if_neg (show ¬ (240 + i ≤ j ∧ j < 360) by omega)]
theorem sDry_at (σ : zS) (j : Int) : sDry σ j = if 120 ≤ j ∧ j < 240 then (if σ j > 0 ∧ σ (j + 120) > σ 531 then 0 else σ j) else if 240 ≤ j ∧ j < 360 then (if σ (j - 120) > 0 ∧ σ j > σ 531 then 0 else σ j) else σ j := sDry_at0 j 120 0 σ (by omega) (by omega)
theorem sGrow_at0 (g j : Int) : ∀ (n : Nat) (i : Int) (s : zS), 0 ≤ i → i + n = 120 → zfor (sGrowF g) i 120 s j = if i ≤ j ∧ j < 120 then s j + (if g = 1 ∧ s (120 + j) = 0 ∧ s j < 9 then 1 else 0) else s j
  | 0, i, s, h0, h => by rw [zfor_end (by omega), if_neg (by omega)]
  | n + 1, i, s, h0, h => by
    rw [zfor_step (by omega), sGrow_at0 g j n (i + 1) _ (by omega) (by omega)]
    unfold sGrowF
    rw [Int.zero_add]
    by_cases hj : j = i
    · subst hj
      rw [if_neg (show ¬ (j + 1 ≤ j ∧ j < 120) by omega), if_pos (show j ≤ j ∧ j < 120 by omega), zu_at]
    · rw [zu_ne hj]
      by_cases h2 : i ≤ j ∧ j < 120
      · rw [if_pos h2, if_pos (show i + 1 ≤ j ∧ j < 120 by omega), zu_ne (by omega)]
      · rw [if_neg h2, if_neg (show ¬ (i + 1 ≤ j ∧ j < 120) by omega)]
theorem sGrow_at (g : Int) (σ : zS) (j : Int) : sGrow g σ j = if 0 ≤ j ∧ j < 120 then σ j + (if g = 1 ∧ σ (120 + j) = 0 ∧ σ j < 9 then 1 else 0) else σ j := sGrow_at0 g j 120 0 σ (by omega) (by omega)
theorem sAge_ag (σ : zS) {c : Int} (h : 0 ≤ c ∧ c < 120) : sAge σ (240 + c) = σ (240 + c) + (if σ (120 + c) > 0 then 1 else 0) := by
  rw [sAge_at, if_pos (by omega), show 240 + c - 120 = 120 + c by omega]
theorem sAge_o (σ : zS) {j : Int} (h : j < 240 ∨ 360 ≤ j) : sAge σ j = σ j := by rw [sAge_at, if_neg (by omega)]
theorem sDry_tr (σ : zS) {c : Int} (h : 0 ≤ c ∧ c < 120) : sDry σ (120 + c) = if σ (120 + c) > 0 ∧ σ (240 + c) > σ 531 then 0 else σ (120 + c) := by
  rw [sDry_at, if_pos (show 120 ≤ 120 + c ∧ 120 + c < 240 by omega), show 120 + c + 120 = 240 + c by omega]
theorem sDry_ag (σ : zS) {c : Int} (h : 0 ≤ c ∧ c < 120) : sDry σ (240 + c) = if σ (120 + c) > 0 ∧ σ (240 + c) > σ 531 then 0 else σ (240 + c) := by
  rw [sDry_at, if_neg (show ¬ (120 ≤ 240 + c ∧ 240 + c < 240) by omega), if_pos (show 240 ≤ 240 + c ∧ 240 + c < 360 by omega), show 240 + c - 120 = 120 + c by omega]
theorem sDry_o (σ : zS) {j : Int} (h : j < 120 ∨ 360 ≤ j) : sDry σ j = σ j := by rw [sDry_at, if_neg (by omega), if_neg (by omega)]
theorem sGrow_fr (g : Int) (σ : zS) {c : Int} (h : 0 ≤ c ∧ c < 120) : sGrow g σ c = σ c + (if g = 1 ∧ σ (120 + c) = 0 ∧ σ c < 9 then 1 else 0) := by
  rw [sGrow_at, if_pos h]
theorem sGrow_o (g : Int) (σ : zS) {j : Int} (h : j < 0 ∨ 120 ≤ j) : sGrow g σ j = σ j := by rw [sGrow_at, if_neg (by omega)]
/-- ages are within the setting -/
def zJ (σ : zS) : Prop := ∀ c : Int, 0 ≤ c → c < 120 → σ (240 + c) ≤ σ 531
theorem zI_off {σ τ : zS} (hI : zI σ) (h : ∀ j : Int, 360 ≤ j → j < 536 → τ j = σ j) (hc : ∀ c : Int, 0 ≤ c → c < 120 → zIc τ c) : zI τ := by
  refine ⟨?_, hc, fun k h1 h2 => ?_⟩
  · have := hI.1
    unfold zIs at this ⊢
    rw [h 531 (by omega) (by omega), h 532 (by omega) (by omega), h 533 (by omega) (by omega), h 534 (by omega) (by omega), h 535 (by omega) (by omega)]
    exact this
  · have := hI.2.2 k h1 h2
    unfold zIk at this ⊢
    rw [h _ (by omega) (by omega), h (360 + 10 * k + 1) (by omega) (by omega), h (360 + 10 * k + 2) (by omega) (by omega), h (360 + 10 * k + 3) (by omega) (by omega), h (360 + 10 * k + 8) (by omega) (by omega), h (360 + 10 * k + 9) (by omega) (by omega)]
    exact this
theorem zI_age {σ : zS} (hI : zI σ) (hJ : zJ σ) : zI (sAge σ) := by
  refine zI_off hI (fun j h1 h2 => by rw [sAge_at, if_neg (by omega)]) (fun c h1 h2 => ?_)
  have hc := hI.2.1 c h1 h2
  have hj := hJ c h1 h2
  have hs := hI.1
  unfold zIs at hs
  unfold zIc at hc ⊢
  rw [sAge_o σ (by omega), sAge_o σ (by omega), sAge_ag σ ⟨h1, h2⟩]
  split <;> omega
theorem zI_dry {σ : zS} (hI : zI σ) : zI (sDry σ) := by
  refine zI_off hI (fun j h1 h2 => by rw [sDry_at, if_neg (by omega), if_neg (by omega)]) (fun c h1 h2 => ?_)
  have hc := hI.2.1 c h1 h2
  unfold zIc at hc ⊢
  rw [sDry_o σ (by omega), sDry_tr σ ⟨h1, h2⟩, sDry_ag σ ⟨h1, h2⟩]
  repeat' split
  all_goals omega
/-- no trail, no age -/
def zZ (σ : zS) : Prop := ∀ c : Int, 0 ≤ c → c < 120 → σ (120 + c) = 0 → σ (240 + c) = 0
theorem zJ_dry {σ : zS} (hI : zI σ) (hZ : zZ σ) : zJ (sDry σ) ∧ zZ (sDry σ) := by
  have hs := hI.1
  unfold zIs at hs
  refine ⟨fun c h1 h2 => ?_, fun c h1 h2 => ?_⟩
  · have hc := hI.2.1 c h1 h2
    have hz := hZ c h1 h2
    unfold zIc at hc
    rw [sDry_ag σ ⟨h1, h2⟩, sDry_o σ (by omega)]
    split <;> omega
  · have hc := hI.2.1 c h1 h2
    have hz := hZ c h1 h2
    unfold zIc at hc
    rw [sDry_tr σ ⟨h1, h2⟩, sDry_ag σ ⟨h1, h2⟩]
    repeat' split
    all_goals omega
theorem zI_tick {σ : zS} (hI : zI σ) : zI (sTick σ) := by
  refine zI_off hI (fun j h1 h2 => by unfold sTick; rw [zu_ne (by omega)]) (fun c h1 h2 => ?_)
  have hc := hI.2.1 c h1 h2
  unfold zIc at hc ⊢
  unfold sTick
  rw [zu_ne (by omega), zu_ne (by omega), zu_ne (by omega)]
  exact hc
theorem zI_grow {σ : zS} (hI : zI σ) (g : Int) : zI (sGrow g σ) := by
  refine zI_off hI (fun j h1 h2 => by rw [sGrow_at, if_neg (by omega)]) (fun c h1 h2 => ?_)
  have hc := hI.2.1 c h1 h2
  unfold zIc at hc ⊢
  rw [sGrow_fr g σ ⟨h1, h2⟩, sGrow_o g σ (by omega), sGrow_o g σ (by omega)]
  split <;> omega
theorem sC6_off {σ : zS} {k j : Int} (h1 : j ≠ 537) (h2 : j ≠ 360 + 10 * k + 3) (h3 : j ≠ 360 + 10 * k + 4) : sC6 σ k j = σ j := by
  unfold sC6 sC7
  split
  · rw [zu_ne h3, zu_ne h2, zu_ne h1]
  · rfl
theorem sC5_off {σ : zS} {k j : Int} (h1 : j ≠ 360 + 10 * k + 1) : sC5 σ k j = σ j := zu_ne h1
theorem sC4_off {σ : zS} {k c0 ln j : Int} (h1 : j ≠ 120 + c0) (h2 : j ≠ 240 + c0) (h3 : j ≠ 360 + 10 * k + 0) : sC4 σ k c0 ln j = σ j := by
  unfold sC4
  rw [zu_ne h3, zu_ne h2, zu_ne h1]
theorem sC21_off {σ : zS} {k step j : Int} (h1 : j ≠ 360 + 10 * k + 2) (h2 : j ≠ 360 + 10 * k + 5) : sC2 (sC1 σ k step) k j = σ j := by
  unfold sC2 sC1
  rw [zu_ne h2, zu_ne h1]
