/-! ===== what the reference answers ===== -/
def sSnail (σ : zS) (k w : Int) : Int := if ¬ (0 ≤ k ∧ k < σ 535) then -1 else if ¬ (0 ≤ w ∧ w ≤ 9) then -2 else if w = 4 then (if σ (360 + 10 * k + w) = 0 then -5 else σ (360 + 10 * k + w)) else if w = 8 then (if σ (360 + 10 * k + w) = 0 then -5 else σ (360 + 10 * k + w) - 1) else σ (360 + 10 * k + w)
def sCell (σ : zS) (lane row w : Int) : Int := if ¬ ((0 ≤ lane ∧ lane ≤ 5) ∧ (0 ≤ row ∧ row ≤ 19)) then -1 else if w = 0 then σ (6 * row + lane) else if w = 1 then (if σ (120 + (6 * row + lane)) = 0 then -5 else σ (120 + (6 * row + lane)) - 1) else if w = 2 then (if σ (120 + (6 * row + lane)) = 0 then -5 else σ (240 + (6 * row + lane))) else if w = 3 then sOn σ lane row else -2
def sCost (σ : zS) (k s : Int) : Int := if ¬ (0 ≤ k ∧ k < σ 535) then -1 else if ¬ (0 ≤ s ∧ s ≤ 2) then -2 else if σ (360 + 10 * k + 3) = 0 then sPr σ k s else -4
def sDoes (σ : zS) (k : Int) : Int := if ¬ (0 ≤ k ∧ k < σ 535) then -1 else if σ (360 + 10 * k + 3) = 0 then sCh σ k else -4
def sReason (σ : zS) (k lane row : Int) : Int := if ¬ (0 ≤ k ∧ k < σ 535) ∨ ¬ ((0 ≤ lane ∧ lane ≤ 5) ∧ (0 ≤ row ∧ row ≤ 19)) then -1 else sWhy σ k (6 * row + lane)
def sOwes (σ : zS) (k o : Int) : Int := if ¬ (0 ≤ k ∧ k < σ 535) ∨ ¬ (0 ≤ o ∧ o < σ 535) then -1 else if k = o then -2 else σ (450 + 9 * k + o)
/-- who leads -/
def sLeadF (σ : zS) (k f : Int) : Int := if σ (360 + 10 * k + 3) = 0 ∧ (f = -5 ∨ σ (360 + 10 * k + 1) > σ (360 + 10 * f + 1) ∨ (σ (360 + 10 * k + 1) = σ (360 + 10 * f + 1) ∧ σ (360 + 10 * k + 2) > σ (360 + 10 * f + 2))) then k else f
def sLead (σ : zS) : Int := zfor (sLeadF σ) 0 (σ 535) (-5)
/-- counts and sums -/
def sIn (σ : zS) (w : Int) : Int := zfor (fun k n => n + if σ (360 + 10 * k + 3) = w then 1 else 0) 0 (σ 535) 0
def sOf (σ : zS) (w : Int) : Int := zfor (fun k n => n + σ (360 + 10 * k + w)) 0 (σ 535) 0
def sTrl (σ : zS) : Int := zfor (fun c n => n + if σ (120 + c) > 0 then 1 else 0) 0 120 0
def sFro (σ : zS) : Int := zfor (fun c n => n + σ c) 0 120 0
def sCount (σ : zS) (pasts len w : Int) : Int := if w = 0 then σ 536 else if w = 1 then σ 535 else if w = 2 then sIn σ 0 else if w = 3 then sIn σ 1 else if w = 4 then sTrl σ else if w = 5 then sFro σ else if w = 6 then sOf σ 5 else if w = 7 then sOf σ 6 else if w = 8 then sOf σ 7 else if 9 ≤ w ∧ w ≤ 12 then σ (531 + w - 9) else if w = 13 then pasts else if w = 14 then len else -2
/-- the least sums of ways up: n rows below the rim -/
def sWayF (σ : zS) (u : Int → Int) (r l step least : Int) : Int :=
  if (0 ≤ sLn l step ∧ sLn l step ≤ 5) ∧ (least = -5 ∨ u (sLn l step) + 1 + σ (6 * (r + 1) + sLn l step) < least) then u (sLn l step) + 1 + σ (6 * (r + 1) + sLn l step) else least
def sWayR (σ : zS) (u : Int → Int) (r l : Int) : Int := zfor (sWayF σ u r l) 0 3 (-5)
def sWayN (σ : zS) : Nat → Int → Int
  | 0, _ => 0
  | n + 1, l => sWayR σ (sWayN σ n) (18 - n) l
def sWay (σ : zS) (lane row w : Int) : Int := if ¬ ((0 ≤ lane ∧ lane ≤ 5) ∧ (0 ≤ row ∧ row ≤ 19)) then -1 else if ¬ (0 ≤ w ∧ w ≤ 1) then -2 else sWayN σ (19 - row).toNat lane
def sEndsIn (σ : zS) (k : Int) : Int := if ¬ (0 ≤ k ∧ k < σ 535) then -1 else if σ (360 + 10 * k + 3) = 2 then -4 else sEnds k 0 σ
/-- the best lane: lane and turns -/
def sBestF (σ : zS) (slime lane : Int) (x : Int × Int) : Int × Int := if sOn σ lane 0 = -5 ∧ sEnds (σ 535) 0 (sCome σ lane slime) ≠ -5 ∧ (x.1 = -5 ∨ sEnds (σ 535) 0 (sCome σ lane slime) < x.2) then (lane, sEnds (σ 535) 0 (sCome σ lane slime)) else x
def sBest (σ : zS) (slime : Int) : Int × Int := zfor (sBestF σ slime) 0 6 (-5, -5)
def sBestLane (σ : zS) (slime w : Int) : Int := if ¬ (0 ≤ slime ∧ slime ≤ 99) ∨ ¬ (0 ≤ w ∧ w ≤ 1) then -2 else if w = 0 then (sBest σ slime).1 else (sBest σ slime).2
theorem sBarS_r (σ : zS) (lane slime : Int) : sBarS σ lane slime = 0 ∨ (-4 ≤ sBarS σ lane slime ∧ sBarS σ lane slime < 0) := by
  unfold sBarS
  repeat' split
  all_goals omega
theorem sBarF_r (σ : zS) (lane row f : Int) : sBarF σ lane row f = 0 ∨ (-5 ≤ sBarF σ lane row f ∧ sBarF σ lane row f < 0) := by
  unfold sBarF
  repeat' split
  all_goals omega
theorem sBarT_r (σ : zS) (t : Int) : sBarT σ t = 0 ∨ (-5 ≤ sBarT σ t ∧ sBarT σ t < 0) := by
  unfold sBarT
  repeat' split
  all_goals omega
theorem sBarS_0 {σ : zS} {lane slime : Int} (h : sBarS σ lane slime = 0) : (0 ≤ lane ∧ lane ≤ 5) ∧ (0 ≤ slime ∧ slime ≤ 99) ∧ sOn σ lane 0 = -5 ∧ σ 535 ≠ 8 := by
  unfold sBarS at h
  split at h
  · omega
  · split at h
    · omega
    · split at h
      · omega
      · split at h
        · omega
        · omega
theorem sBarF_0 {σ : zS} {lane row f : Int} (h : sBarF σ lane row f = 0) : (0 ≤ lane ∧ lane ≤ 5) ∧ (0 ≤ row ∧ row ≤ 19) ∧ (0 ≤ f ∧ f ≤ 9) := by
  unfold sBarF at h
  split at h
  · omega
  · split at h
    · omega
    · omega
theorem sBarT_0 {σ : zS} {t : Int} (h : sBarT σ t = 0) : (1 ≤ t ∧ t ≤ 99) ∧ σ 536 + t ≤ 99999 := by
  unfold sBarT at h
  split at h
  · omega
  · split at h
    · omega
    · omega
def sBarSet (σ : zS) (w x : Int) : Int := if ¬ (0 ≤ w ∧ w ≤ 3) then -1 else if ¬ ((if w = 0 then 0 else 1) ≤ x ∧ x ≤ sMost w) then -2 else if σ (531 + w) = x then -5 else 0
theorem zI_set {σ : zS} (hI : zI σ) {w x : Int} (hw : 0 ≤ w ∧ w ≤ 3) (hx : (if w = 0 then 0 else 1) ≤ x ∧ x ≤ sMost w) : zI (zu σ (531 + w) x) := by
  refine ⟨?_, fun c h1 h2 => ?_, fun k h1 h2 => ?_⟩
  · have hs := hI.1
    unfold zIs at hs ⊢
    unfold sMost at hx
    rcases (show w = 0 ∨ w = 1 ∨ w = 2 ∨ w = 3 by omega) with rfl | rfl | rfl | rfl
    · rw [show (531 : Int) + 0 = 531 by decide, zu_at, zu_ne (by decide), zu_ne (by decide), zu_ne (by decide), zu_ne (by decide)]
      simp at hx
      omega
    · rw [show (531 : Int) + 1 = 532 by decide, zu_at, zu_ne (by decide), zu_ne (by decide), zu_ne (by decide), zu_ne (by decide)]
      simp at hx
      omega
    · rw [show (531 : Int) + 2 = 533 by decide, zu_at, zu_ne (by decide), zu_ne (by decide), zu_ne (by decide), zu_ne (by decide)]
      simp at hx
      omega
    · rw [show (531 : Int) + 3 = 534 by decide, zu_at, zu_ne (by decide), zu_ne (by decide), zu_ne (by decide), zu_ne (by decide)]
      simp at hx
      omega
  · have hc := hI.2.1 c h1 h2
    unfold zIc at hc ⊢
    rw [zu_ne (by omega), zu_ne (by omega), zu_ne (by omega)]
    exact hc
  · have hk := hI.2.2 k h1 h2
    unfold zIk at hk ⊢
    rw [zu_ne (by omega), zu_ne (by omega), zu_ne (by omega), zu_ne (by omega), zu_ne (by omega), zu_ne (by omega)]
    exact hk
theorem sEn_r (k : Int) : ∀ (m : Nat) (i : Int) (s : zS), sEn k m i s = -5 ∨ (i ≤ sEn k m i s ∧ sEn k m i s ≤ i + m)
  | 0, i, s => by
    unfold sEn
    split
    · right; omega
    · left; rfl
  | m + 1, i, s => by
    unfold sEn
    split
    · have := sEn_r k m (i + 1) (sTurn s)
      omega
    · split
      · right; omega
      · left; rfl
theorem sEnds_r (k i : Int) (s : zS) (h : 0 ≤ i ∧ i ≤ 300) : sEnds k i s = -5 ∨ (i ≤ sEnds k i s ∧ sEnds k i s ≤ 300) := by
  have := sEn_r k (300 - i).toNat i s
  unfold sEnds
  omega
theorem sCoA_at0 (m j : Int) : ∀ (n : Nat) (i : Int) (σ : zS), 0 ≤ i → i + n = 10 → zfor (fun j s => zu s (360 + 10 * m + j) 0) i 10 σ j = if 360 + 10 * m + i ≤ j ∧ j < 370 + 10 * m then 0 else σ j
  | 0, i, σ, h0, h => by rw [zfor_end (by omega), if_neg (by omega)]
  | n + 1, i, σ, h0, h => by
    rw [zfor_step (by omega), sCoA_at0 m j n (i + 1) _ (by omega) (by omega)]
    by_cases hj : j = 360 + 10 * m + i
    · subst hj
      rw [if_neg (by omega), if_pos (by omega)]
      exact zu_at
    · by_cases h2 : 360 + 10 * m + i ≤ j ∧ j < 370 + 10 * m
      · rw [if_pos h2, if_pos (by omega)]
      · rw [if_neg h2, if_neg (by omega)]
        exact zu_ne hj
theorem sCoA_at (σ : zS) (m j : Int) : sComeA σ m j = if 360 + 10 * m ≤ j ∧ j < 370 + 10 * m then 0 else σ j := by
  have := sCoA_at0 m j 10 0 σ (by omega) (by omega)
  rw [Int.add_zero] at this
  exact this
theorem sCoB_off0 (m j : Int) (hj : ∀ a : Int, 0 ≤ a → a < 9 → j ≠ 450 + 9 * m + a ∧ j ≠ 450 + 9 * a + m) : ∀ (n : Nat) (i : Int) (σ : zS), 0 ≤ i → i + n = 9 → zfor (fun j s => zu (zu s (450 + 9 * m + j) 0) (450 + 9 * j + m) 0) i 9 σ j = σ j
  | 0, i, σ, h0, h => by rw [zfor_end (by omega)]
  | n + 1, i, σ, h0, h => by
    have h1 := hj i h0 (by omega)
    rw [zfor_step (by omega), sCoB_off0 m j hj n (i + 1) _ (by omega) (by omega), zu_ne h1.2, zu_ne h1.1]
theorem sCoB_off {σ : zS} {m j : Int} (hj : ∀ a : Int, 0 ≤ a → a < 9 → j ≠ 450 + 9 * m + a ∧ j ≠ 450 + 9 * a + m) : sComeB σ m j = σ j := sCoB_off0 m j hj 9 0 σ (by omega) (by omega)
theorem sCoB_00 (m a b : Int) (hm : 0 ≤ m ∧ m < 9) (ha : 0 ≤ a ∧ a < 9) (hb : 0 ≤ b ∧ b < 9) : ∀ (n : Nat) (i : Int) (σ : zS), 0 ≤ i → i + n = 9 → (σ (450 + 9 * a + b) = 0 ∨ (a = m ∧ i ≤ b) ∨ (b = m ∧ i ≤ a)) → zfor (fun j s => zu (zu s (450 + 9 * m + j) 0) (450 + 9 * j + m) 0) i 9 σ (450 + 9 * a + b) = 0
  | 0, i, σ, h0, h, hh => by
    rw [zfor_end (by omega)]
    rcases hh with q | q | q
    · exact q
    · omega
    · omega
  | n + 1, i, σ, h0, h, hh => by
    rw [zfor_step (by omega)]
    refine sCoB_00 m a b hm ha hb n (i + 1) _ (by omega) (by omega) ?_
    by_cases h1 : 450 + 9 * a + b = 450 + 9 * i + m
    · left
      rw [h1]
      exact zu_at
    · rw [zu_ne h1]
      by_cases h2 : 450 + 9 * a + b = 450 + 9 * m + i
      · left
        rw [h2]
        exact zu_at
      · rw [zu_ne h2]
        omega
theorem sCoB_0 {σ : zS} {m a b : Int} (hm : 0 ≤ m ∧ m < 9) (ha : 0 ≤ a ∧ a < 9) (hb : 0 ≤ b ∧ b < 9) (h : a = m ∨ b = m) : sComeB σ m (450 + 9 * a + b) = 0 := sCoB_00 m a b hm ha hb 9 0 σ (by omega) (by omega) (by omega)
section CO
variable {σ : zS} {lane slime : Int}
/-- cells, settings, the turn, the ended stay -/
theorem sCo_off (hm : 0 ≤ σ 535 ∧ σ 535 ≤ 8) {j : Int} (hj : j < 360 ∨ (360 ≤ j ∧ j < 360 + 10 * σ 535) ∨ (370 + 10 * σ 535 ≤ j ∧ j < 450) ∨ (531 ≤ j ∧ j ≠ 535)) : sCome σ lane slime j = σ j := by
  unfold sCome sComeD sComeC
  rw [zu_ne (by omega), zu_ne (by omega), zu_ne (by omega), sCoB_off (fun a h1 h2 => by omega), sCoA_at, if_neg (by omega)]
theorem sCo_many (hm : 0 ≤ σ 535 ∧ σ 535 ≤ 8) : sCome σ lane slime 535 = σ 535 + 1 := by
  unfold sCome sComeD sComeC
  rw [zu_at, zu_ne (by omega), zu_ne (by omega), sCoB_off (fun a h1 h2 => by omega), sCoA_at, if_neg (by omega)]
theorem sCo_at (hm : 0 ≤ σ 535 ∧ σ 535 ≤ 8) {w : Int} (hw : 0 ≤ w ∧ w < 10) : sCome σ lane slime (360 + 10 * σ 535 + w) = if w = 0 then lane else if w = 2 then slime else 0 := by
  unfold sCome sComeD sComeC
  rw [zu_ne (by omega)]
  by_cases h2 : w = 2
  · subst h2
    rw [zu_at]
    rfl
  · rw [zu_ne (by omega)]
    by_cases h0 : w = 0
    · subst h0
      rw [zu_at]
      rfl
    · rw [zu_ne (by omega), sCoB_off (fun a h1 h2 => by omega), sCoA_at, if_pos (by omega), if_neg h0, if_neg h2]
theorem sCo_ow0 (hm : 0 ≤ σ 535 ∧ σ 535 ≤ 8) {a b : Int} (ha : 0 ≤ a ∧ a < 9) (hb : 0 ≤ b ∧ b < 9) (h : a = σ 535 ∨ b = σ 535) : sCome σ lane slime (450 + 9 * a + b) = 0 := by
  unfold sCome sComeD sComeC
  rw [zu_ne (by omega), zu_ne (by omega), zu_ne (by omega), sCoB_0 (by omega) ha hb h]
theorem sCo_ow (hm : 0 ≤ σ 535 ∧ σ 535 ≤ 8) {a b : Int} (ha : 0 ≤ a ∧ a < 9) (hb : 0 ≤ b ∧ b < 9) (h : a ≠ σ 535 ∧ b ≠ σ 535) : sCome σ lane slime (450 + 9 * a + b) = σ (450 + 9 * a + b) := by
  unfold sCome sComeD sComeC
  rw [zu_ne (by omega), zu_ne (by omega), zu_ne (by omega), sCoB_off (fun c h1 h2 => by omega), sCoA_at, if_neg (by omega)]
end CO
theorem zA_come {σ : zS} (hA : zA σ) (hm : σ 535 ≤ 8) {lane slime : Int} (hl : 0 ≤ lane ∧ lane ≤ 5) (hs : 0 ≤ slime ∧ slime ≤ 99) : zA (sCome σ lane slime) ∧ sCome σ lane slime 536 = σ 536 := by
  have hm0 := hA.1.1
  unfold zIs at hm0
  have hm2 : 0 ≤ σ 535 ∧ σ 535 ≤ 8 := by omega
  refine ⟨⟨⟨?_, fun c h1 h2 => ?_, fun k h1 h2 => ?_⟩, fun c h1 h2 => ?_, fun c h1 h2 h3 => ?_⟩, sCo_off hm2 (by omega)⟩
  · unfold zIs
    rw [sCo_many hm2, sCo_off hm2 (by omega), sCo_off hm2 (by omega), sCo_off hm2 (by omega), sCo_off hm2 (by omega)]
    omega
  · have hc := hA.1.2.1 c h1 h2
    unfold zIc at hc ⊢
    rw [sCo_off hm2 (by omega), sCo_off hm2 (by omega), sCo_off hm2 (by omega)]
    exact hc
  · by_cases hk : k = σ 535
    · subst hk
      unfold zIk
      rw [sCo_at hm2 (w := 0) (by omega), sCo_at hm2 (w := 1) (by omega), sCo_at hm2 (w := 2) (by omega), sCo_at hm2 (w := 3) (by omega), sCo_at hm2 (w := 8) (by omega), sCo_at hm2 (w := 9) (by omega)]
      simp
      omega
    · have hq := hA.1.2.2 k h1 h2
      unfold zIk at hq ⊢
      rw [sCo_off hm2 (by omega), sCo_off hm2 (by omega), sCo_off hm2 (by omega), sCo_off hm2 (by omega), sCo_off hm2 (by omega), sCo_off hm2 (by omega)]
      exact hq
  · rw [sCo_off hm2 (by omega), sCo_off hm2 (by omega)]
    exact hA.2.1 c h1 h2
  · rw [sCo_off hm2 (by omega)] at h3 ⊢
    exact hA.2.2 c h1 h2 h3
theorem sWayF_r {σ : zS} {u : Int → Int} {r l lo hi : Int} (hI : zI σ) (hr : 0 ≤ r ∧ r ≤ 18) (hu : ∀ x : Int, 0 ≤ x → x ≤ 5 → lo ≤ u x ∧ u x ≤ hi) {s f : Int} (hf : f = -5 ∨ (lo + 1 ≤ f ∧ f ≤ hi + 10)) : sWayF σ u r l s f = -5 ∨ (lo + 1 ≤ sWayF σ u r l s f ∧ sWayF σ u r l s f ≤ hi + 10) := by
  unfold sWayF
  split
  · rename_i h
    have h1 := hu _ h.1.1 h.1.2
    have h2 := hI.2.1 (6 * (r + 1) + sLn l s) (by omega) (by omega)
    unfold zIc at h2
    right
    omega
  · exact hf
theorem sWayR_r {σ : zS} {u : Int → Int} {r l lo hi : Int} (hI : zI σ) (hr : 0 ≤ r ∧ r ≤ 18) (hl : 0 ≤ l ∧ l ≤ 5) (hlo : 0 ≤ lo) (hu : ∀ x : Int, 0 ≤ x → x ≤ 5 → lo ≤ u x ∧ u x ≤ hi) : lo + 1 ≤ sWayR σ u r l ∧ sWayR σ u r l ≤ hi + 10 := by
  unfold sWayR
  rw [zfor_step (by decide), zfor_step (by decide), zfor_step (by decide), zfor_end (by decide)]
  have h0 : sWayF σ u r l 0 (-5) ≠ -5 ∧ (lo + 1 ≤ sWayF σ u r l 0 (-5) ∧ sWayF σ u r l 0 (-5) ≤ hi + 10) := by
    have h1 := hu l hl.1 hl.2
    have h2 := hI.2.1 (6 * (r + 1) + l) (by omega) (by omega)
    unfold zIc at h2
    have e : sLn l 0 = l := by unfold sLn; rw [if_pos rfl]
    unfold sWayF
    rw [e, if_pos ⟨hl, Or.inl rfl⟩]
    omega
  generalize sWayF σ u r l 0 (-5) = f0 at h0
  have h1 : sWayF σ u r l (0 + 1) f0 ≠ -5 ∧ (lo + 1 ≤ sWayF σ u r l (0 + 1) f0 ∧ sWayF σ u r l (0 + 1) f0 ≤ hi + 10) := by
    have q := sWayF_r hI hr hu (l := l) (s := 0 + 1) (f := f0) (Or.inr h0.2)
    refine ⟨?_, ?_⟩
    · intro e
      unfold sWayF at e
      split at e
      · rename_i h
        have h1 := hu _ h.1.1 h.1.2
        have h2 := hI.2.1 (6 * (r + 1) + sLn l (0 + 1)) (by omega) (by omega)
        unfold zIc at h2
        omega
      · exact h0.1 e
    · rcases q with q | q
      · unfold sWayF at q ⊢
        split at q
        · rename_i h
          have h1 := hu _ h.1.1 h.1.2
          have h2 := hI.2.1 (6 * (r + 1) + sLn l (0 + 1)) (by omega) (by omega)
          unfold zIc at h2
          omega
        · exact absurd q h0.1
      · exact q
  generalize sWayF σ u r l (0 + 1) f0 = f1 at h1
  have q := sWayF_r hI hr hu (l := l) (s := 0 + 1 + 1) (f := f1) (Or.inr h1.2)
  rcases q with q | q
  · exfalso
    unfold sWayF at q
    split at q
    · rename_i h
      have h1 := hu _ h.1.1 h.1.2
      have h2 := hI.2.1 (6 * (r + 1) + sLn l (0 + 1 + 1)) (by omega) (by omega)
      unfold zIc at h2
      omega
    · exact h1.1 q
  · exact q
theorem sWayN_r {σ : zS} (hI : zI σ) : ∀ (n : Nat) (l : Int), n ≤ 19 → 0 ≤ l → l ≤ 5 → (n : Int) ≤ sWayN σ n l ∧ sWayN σ n l ≤ 10 * n
  | 0, l, _, _, _ => by
    show (0 : Int) ≤ 0 ∧ (0 : Int) ≤ 10 * 0
    omega
  | n + 1, l, hn, h1, h2 => by
    have ih := fun x q1 q2 => sWayN_r hI n x (by omega) q1 q2
    have := sWayR_r hI (r := 18 - (n : Int)) (l := l) (lo := (n : Int)) (hi := 10 * (n : Int)) (by omega) ⟨h1, h2⟩ (by omega) ih
    show ((n + 1 : Nat) : Int) ≤ sWayR σ (sWayN σ n) (18 - (n : Int)) l ∧ sWayR σ (sWayN σ n) (18 - (n : Int)) l ≤ 10 * ((n + 1 : Nat) : Int)
    omega
theorem sWayN_step (σ : zS) {r l : Int} (h : 0 ≤ r ∧ r ≤ 18) : sWayN σ (19 - r).toNat l = sWayR σ (sWayN σ (18 - r).toNat) r l := by
  rw [show (19 - r).toNat = (18 - r).toNat + 1 by omega]
  show sWayR σ (sWayN σ (18 - r).toNat) (18 - ((18 - r).toNat : Int)) l = _
  rw [show 18 - ((18 - r).toNat : Int) = r by omega]

