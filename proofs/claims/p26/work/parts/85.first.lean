/-! ===== two new objects: where they lie, what they hold ===== -/
def nAd (α ρ : Nat → Nat → Nat) (h hq s : Nat) (b c : Nat → Nat) (g0 : Int → Nat) (k : Int) : Nat :=
  if k < 175 then (if 15 ≤ k % 25 ∧ k % 25 < 24 then ρ (k / 25).toNat (k % 25 - 15).toNat else α (k / 25).toNat (k % 25).toNat)
  else if k < 187 then (match k.toNat - 175 with | 0 => h | 1 => hq | 2 => s | 3 => b 0 | 4 => b 1 | 5 => b 2 | 6 => b 3 | 7 => b 4 | 8 => b 5 | 9 => c 0 | 10 => c 1 | _ => c 2)
  else g0 k
def nM0 : zM := fun k j => if k < 175 then (match (k % 25).toNat with | 1 => 4 | 2 => -5 | 3 => -5 | 8 => -5 | 12 => -5 | 24 => ([6, 2, 5, 4] : List Int).getD j.toNat 0 | _ => 0) else if k = 175 then (if j = 7 ∨ j = 8 then -5 else 0) else 0
def nG (G : zG) (α ρ : Nat → Nat → Nat) (h hq s : Nat) (b c : Nat → Nat) : zG := (G.1, nAd α ρ h hq s b c G.2.1, G.2.2.1, G.2.2.2)
def nAt (G : zG) (α ρ : Nat → Nat → Nat) (h hq s : Nat) (b c : Nat → Nat) (k : Nat) : Nat × va_E := ((nG G α ρ h hq s b c).2.1 (k : Int), zm_ce (nG G α ρ h hq s b c) nM0 (k : Int) (zm_sh (k : Int)))
theorem nAd_row (α ρ : Nat → Nat → Nat) (h hq s : Nat) (b c : Nat → Nat) (g0 : Int → Nat) {j i : Nat} (hj : j < 7) (hi : i < 9) : nAd α ρ h hq s b c g0 (25 * (j : Int) + 15 + (i : Int)) = ρ j i := by
  unfold nAd
  rw [if_pos (by omega), if_pos (by omega), show ((25 * (j : Int) + 15 + (i : Int)) / 25).toNat = j by omega, show ((25 * (j : Int) + 15 + (i : Int)) % 25 - 15).toNat = i by omega]
theorem nAd_pane (α ρ : Nat → Nat → Nat) (h hq s : Nat) (b c : Nat → Nat) (g0 : Int → Nat) {j : Nat} (hj : j < 7) : nAd α ρ h hq s b c g0 (25 * (j : Int)) = α j 0 := by
  unfold nAd
  rw [if_pos (by omega), if_neg (by omega), show (25 * (j : Int) / 25).toNat = j by omega, show (25 * (j : Int) % 25).toNat = 0 by omega]
set_option maxRecDepth 100000 in
set_option maxHeartbeats 4000000 in
theorem nPane_0 {G : zG} {α ρ : Nat → Nat → Nat} {h hq s : Nat} {b c : Nat → Nat} : nPane G (α 0) (ρ 0) = ([0, 1, 2, 3, 4, 5, 6, 7, 8, 9, 10, 11, 12, 13, 14, 15, 16, 17, 18, 19, 20, 21, 22, 23, 24] : List Nat).map (nAt G α ρ h hq s b c) := by
  have e : (fun i : Nat => if i < 9 then some (ρ 0 i) else none) = (fun i : Nat => if i < 9 then some ((nG G α ρ h hq s b c).2.1 ((((14 : Nat) : Int) + 1) + 1 * (i : Int))) else none) := by
    funext i
    by_cases hi : i < 9
    · rw [if_pos hi, if_pos hi, ← nAd_row α ρ h hq s b c G.2.1 (j := 0) (i := i) (by omega) hi]
      show some (nAd α ρ h hq s b c G.2.1 _) = some (nAd α ρ h hq s b c G.2.1 _)
      congr 2
      omega
    · rw [if_neg hi, if_neg hi]
  unfold nPane
  rw [e]
  rfl
set_option maxRecDepth 100000 in
set_option maxHeartbeats 4000000 in
theorem nPane_1 {G : zG} {α ρ : Nat → Nat → Nat} {h hq s : Nat} {b c : Nat → Nat} : nPane G (α 1) (ρ 1) = ([25, 26, 27, 28, 29, 30, 31, 32, 33, 34, 35, 36, 37, 38, 39, 40, 41, 42, 43, 44, 45, 46, 47, 48, 49] : List Nat).map (nAt G α ρ h hq s b c) := by
  have e : (fun i : Nat => if i < 9 then some (ρ 1 i) else none) = (fun i : Nat => if i < 9 then some ((nG G α ρ h hq s b c).2.1 ((((39 : Nat) : Int) + 1) + 1 * (i : Int))) else none) := by
    funext i
    by_cases hi : i < 9
    · rw [if_pos hi, if_pos hi, ← nAd_row α ρ h hq s b c G.2.1 (j := 1) (i := i) (by omega) hi]
      show some (nAd α ρ h hq s b c G.2.1 _) = some (nAd α ρ h hq s b c G.2.1 _)
      congr 2
      omega
    · rw [if_neg hi, if_neg hi]
  unfold nPane
  rw [e]
  rfl
set_option maxRecDepth 100000 in
set_option maxHeartbeats 4000000 in
theorem nPane_2 {G : zG} {α ρ : Nat → Nat → Nat} {h hq s : Nat} {b c : Nat → Nat} : nPane G (α 2) (ρ 2) = ([50, 51, 52, 53, 54, 55, 56, 57, 58, 59, 60, 61, 62, 63, 64, 65, 66, 67, 68, 69, 70, 71, 72, 73, 74] : List Nat).map (nAt G α ρ h hq s b c) := by
  have e : (fun i : Nat => if i < 9 then some (ρ 2 i) else none) = (fun i : Nat => if i < 9 then some ((nG G α ρ h hq s b c).2.1 ((((64 : Nat) : Int) + 1) + 1 * (i : Int))) else none) := by
    funext i
    by_cases hi : i < 9
    · rw [if_pos hi, if_pos hi, ← nAd_row α ρ h hq s b c G.2.1 (j := 2) (i := i) (by omega) hi]
      show some (nAd α ρ h hq s b c G.2.1 _) = some (nAd α ρ h hq s b c G.2.1 _)
      congr 2
      omega
    · rw [if_neg hi, if_neg hi]
  unfold nPane
  rw [e]
  rfl
set_option maxRecDepth 100000 in
set_option maxHeartbeats 4000000 in
theorem nPane_3 {G : zG} {α ρ : Nat → Nat → Nat} {h hq s : Nat} {b c : Nat → Nat} : nPane G (α 3) (ρ 3) = ([75, 76, 77, 78, 79, 80, 81, 82, 83, 84, 85, 86, 87, 88, 89, 90, 91, 92, 93, 94, 95, 96, 97, 98, 99] : List Nat).map (nAt G α ρ h hq s b c) := by
  have e : (fun i : Nat => if i < 9 then some (ρ 3 i) else none) = (fun i : Nat => if i < 9 then some ((nG G α ρ h hq s b c).2.1 ((((89 : Nat) : Int) + 1) + 1 * (i : Int))) else none) := by
    funext i
    by_cases hi : i < 9
    · rw [if_pos hi, if_pos hi, ← nAd_row α ρ h hq s b c G.2.1 (j := 3) (i := i) (by omega) hi]
      show some (nAd α ρ h hq s b c G.2.1 _) = some (nAd α ρ h hq s b c G.2.1 _)
      congr 2
      omega
    · rw [if_neg hi, if_neg hi]
  unfold nPane
  rw [e]
  rfl
set_option maxRecDepth 100000 in
set_option maxHeartbeats 4000000 in
theorem nPane_4 {G : zG} {α ρ : Nat → Nat → Nat} {h hq s : Nat} {b c : Nat → Nat} : nPane G (α 4) (ρ 4) = ([100, 101, 102, 103, 104, 105, 106, 107, 108, 109, 110, 111, 112, 113, 114, 115, 116, 117, 118, 119, 120, 121, 122, 123, 124] : List Nat).map (nAt G α ρ h hq s b c) := by
  have e : (fun i : Nat => if i < 9 then some (ρ 4 i) else none) = (fun i : Nat => if i < 9 then some ((nG G α ρ h hq s b c).2.1 ((((114 : Nat) : Int) + 1) + 1 * (i : Int))) else none) := by
    funext i
    by_cases hi : i < 9
    · rw [if_pos hi, if_pos hi, ← nAd_row α ρ h hq s b c G.2.1 (j := 4) (i := i) (by omega) hi]
      show some (nAd α ρ h hq s b c G.2.1 _) = some (nAd α ρ h hq s b c G.2.1 _)
      congr 2
      omega
    · rw [if_neg hi, if_neg hi]
  unfold nPane
  rw [e]
  rfl
set_option maxRecDepth 100000 in
set_option maxHeartbeats 4000000 in
theorem nPane_5 {G : zG} {α ρ : Nat → Nat → Nat} {h hq s : Nat} {b c : Nat → Nat} : nPane G (α 5) (ρ 5) = ([125, 126, 127, 128, 129, 130, 131, 132, 133, 134, 135, 136, 137, 138, 139, 140, 141, 142, 143, 144, 145, 146, 147, 148, 149] : List Nat).map (nAt G α ρ h hq s b c) := by
  have e : (fun i : Nat => if i < 9 then some (ρ 5 i) else none) = (fun i : Nat => if i < 9 then some ((nG G α ρ h hq s b c).2.1 ((((139 : Nat) : Int) + 1) + 1 * (i : Int))) else none) := by
    funext i
    by_cases hi : i < 9
    · rw [if_pos hi, if_pos hi, ← nAd_row α ρ h hq s b c G.2.1 (j := 5) (i := i) (by omega) hi]
      show some (nAd α ρ h hq s b c G.2.1 _) = some (nAd α ρ h hq s b c G.2.1 _)
      congr 2
      omega
    · rw [if_neg hi, if_neg hi]
  unfold nPane
  rw [e]
  rfl
set_option maxRecDepth 100000 in
set_option maxHeartbeats 4000000 in
theorem nPane_6 {G : zG} {α ρ : Nat → Nat → Nat} {h hq s : Nat} {b c : Nat → Nat} : nPane G (α 6) (ρ 6) = ([150, 151, 152, 153, 154, 155, 156, 157, 158, 159, 160, 161, 162, 163, 164, 165, 166, 167, 168, 169, 170, 171, 172, 173, 174] : List Nat).map (nAt G α ρ h hq s b c) := by
  have e : (fun i : Nat => if i < 9 then some (ρ 6 i) else none) = (fun i : Nat => if i < 9 then some ((nG G α ρ h hq s b c).2.1 ((((164 : Nat) : Int) + 1) + 1 * (i : Int))) else none) := by
    funext i
    by_cases hi : i < 9
    · rw [if_pos hi, if_pos hi, ← nAd_row α ρ h hq s b c G.2.1 (j := 6) (i := i) (by omega) hi]
      show some (nAd α ρ h hq s b c G.2.1 _) = some (nAd α ρ h hq s b c G.2.1 _)
      congr 2
      omega
    · rw [if_neg hi, if_neg hi]
  unfold nPane
  rw [e]
  rfl
set_option maxRecDepth 100000 in
set_option maxHeartbeats 4000000 in
theorem nHist_0 {G : zG} {α ρ : Nat → Nat → Nat} {h hq s : Nat} {b c : Nat → Nat} : nHist G hq s (fun i => α (i + 3)) (fun i => ρ (i + 3)) = ([176, 177, 75, 76, 77, 78, 79, 80, 81, 82, 83, 84, 85, 86, 87, 88, 89, 90, 91, 92, 93, 94, 95, 96, 97, 98, 99, 100, 101, 102, 103, 104, 105, 106, 107, 108, 109, 110, 111, 112, 113, 114, 115, 116, 117, 118, 119, 120, 121, 122, 123, 124, 125, 126, 127, 128, 129, 130, 131, 132, 133, 134, 135, 136, 137, 138, 139, 140, 141, 142, 143, 144, 145, 146, 147, 148, 149, 150, 151, 152, 153, 154, 155, 156, 157, 158, 159, 160, 161, 162, 163, 164, 165, 166, 167, 168, 169, 170, 171, 172, 173, 174] : List Nat).map (nAt G α ρ h hq s b c) := by
  have e : (fun i : Nat => if i < 4 then some (α (i + 3) 0) else none) = (fun i : Nat => if i < 4 then some ((nG G α ρ h hq s b c).2.1 ((((177 : Nat) : Int) + (-102)) + 25 * (i : Int))) else none) := by
    funext i
    by_cases hi : i < 4
    · rw [if_pos hi, if_pos hi, ← nAd_pane α ρ h hq s b c G.2.1 (j := i + 3) (by omega)]
      show some (nAd α ρ h hq s b c G.2.1 _) = some (nAd α ρ h hq s b c G.2.1 _)
      congr 2
      omega
    · rw [if_neg hi, if_neg hi]
  unfold nHist
  rw [e]
  show _ :: _ :: (((nPane G (α 3) (ρ 3) ++ nPane G (α 4) (ρ 4)) ++ nPane G (α 5) (ρ 5)) ++ nPane G (α 6) (ρ 6)) = _
  rw [nPane_3 (h := h) (hq := hq) (s := s) (b := b) (c := c), nPane_4 (h := h) (hq := hq) (s := s) (b := b) (c := c), nPane_5 (h := h) (hq := hq) (s := s) (b := b) (c := c), nPane_6 (h := h) (hq := hq) (s := s) (b := b) (c := c)]
  rfl
set_option maxRecDepth 100000 in
set_option maxHeartbeats 4000000 in
theorem nRace_0 {G : zG} {α ρ : Nat → Nat → Nat} {h hq s : Nat} {b c : Nat → Nat} : nRace G b = ([178, 179, 180, 181, 182, 183] : List Nat).map (nAt G α ρ h hq s b c) := rfl
set_option maxRecDepth 100000 in
set_option maxHeartbeats 4000000 in
theorem nWays_0 {G : zG} {α ρ : Nat → Nat → Nat} {h hq s : Nat} {b c : Nat → Nat} : nWays G c = ([184, 185, 186] : List Nat).map (nAt G α ρ h hq s b c) := rfl
def nL : List Nat := [175, 0, 1, 2, 3, 4, 5, 6, 7, 8, 9, 10, 11, 12, 13, 14, 15, 16, 17, 18, 19, 20, 21, 22, 23, 24, 25, 26, 27, 28, 29, 30, 31, 32, 33, 34, 35, 36, 37, 38, 39, 40, 41, 42, 43, 44, 45, 46, 47, 48, 49, 50, 51, 52, 53, 54, 55, 56, 57, 58, 59, 60, 61, 62, 63, 64, 65, 66, 67, 68, 69, 70, 71, 72, 73, 74, 176, 177, 75, 76, 77, 78, 79, 80, 81, 82, 83, 84, 85, 86, 87, 88, 89, 90, 91, 92, 93, 94, 95, 96, 97, 98, 99, 100, 101, 102, 103, 104, 105, 106, 107, 108, 109, 110, 111, 112, 113, 114, 115, 116, 117, 118, 119, 120, 121, 122, 123, 124, 125, 126, 127, 128, 129, 130, 131, 132, 133, 134, 135, 136, 137, 138, 139, 140, 141, 142, 143, 144, 145, 146, 147, 148, 149, 150, 151, 152, 153, 154, 155, 156, 157, 158, 159, 160, 161, 162, 163, 164, 165, 166, 167, 168, 169, 170, 171, 172, 173, 174, 178, 179, 180, 181, 182, 183, 184, 185, 186]
theorem nL_all : ∀ k, k < 187 → k ∈ nL := by decide +kernel
set_option maxRecDepth 100000 in
set_option maxHeartbeats 4000000 in
theorem nAll {G : zG} {α ρ : Nat → Nat → Nat} {h hq s : Nat} {b c : Nat → Nat} : nSnail G h α ρ hq s b c = nL.map (nAt G α ρ h hq s b c) := by
  unfold nSnail
  rw [nPane_0 (h := h) (hq := hq) (s := s) (b := b) (c := c), nPane_1 (h := h) (hq := hq) (s := s) (b := b) (c := c), nPane_2 (h := h) (hq := hq) (s := s) (b := b) (c := c), nHist_0 (h := h) (b := b) (c := c), nRace_0 (α := α) (ρ := ρ) (h := h) (hq := hq) (s := s) (c := c), nWays_0 (α := α) (ρ := ρ) (h := h) (hq := hq) (s := s) (b := b)]
  rfl
set_option maxRecDepth 100000 in
set_option maxHeartbeats 4000000 in
theorem nGP {G : zG} {α ρ : Nat → Nat → Nat} {h hq s : Nat} {b c : Nat → Nat} {H : Heap} (hP : va_P G.2.2.2 zm_cls (nSnail G h α ρ hq s b c) H) : zm_GP (nG G α ρ h hq s b c) nM0 H := by
  intro k q hk
  have hl : k < 187 := by have := (List.getElem?_eq_some_iff.mp hk).1; rw [zm_W_len] at this; exact this
  rw [zm_W_get _ _ hl] at hk
  rw [← Option.some.inj hk]
  show va_at G.2.2.2 zm_cls (nAt G α ρ h hq s b c k) H
  obtain ⟨i, hi⟩ := List.getElem?_of_mem (nL_all k hl)
  rw [nAll] at hP
  exact hP i _ (by rw [List.getElem?_map, hi]; rfl)
set_option maxRecDepth 100000 in
set_option maxHeartbeats 4000000 in
theorem nJ {G : zG} {α ρ : Nat → Nat → Nat} {h hq s : Nat} {b c : Nat → Nat} {A : Nat → Prop} (hD : va_D A (nSnail G h α ρ hq s b c)) : zm_J (nG G α ρ h hq s b c) ∧ ∀ q, zm_A (nG G α ρ h hq s b c) q → A q ∧ ∃ (i : Nat) (p : Nat × va_E), (nSnail G h α ρ hq s b c)[i]? = some p ∧ p.1 = q := by
  rw [nAll] at hD
  have key : ∀ k : Nat, k < 187 → ∃ i : Nat, nL[i]? = some k ∧ (nL.map (nAt G α ρ h hq s b c))[i]? = some (nAt G α ρ h hq s b c k) := by
    intro k hk
    obtain ⟨i, hi⟩ := List.getElem?_of_mem (nL_all k hk)
    exact ⟨i, hi, by rw [List.getElem?_map, hi]; rfl⟩
  refine ⟨fun i j hi hj e => ?_, fun q hq => ?_⟩
  · obtain ⟨i1, a1, a2⟩ := key i hi
    obtain ⟨j1, b1, b2⟩ := key j hj
    have e0 : (nAt G α ρ h hq s b c i).1 = (nAt G α ρ h hq s b c j).1 := e
    have e1 := hD.1 i1 j1 _ _ a2 b2 e0
    subst e1
    exact Option.some.inj (a1.symm.trans b1)
  · obtain ⟨j, hj, e⟩ := hq
    obtain ⟨i1, a1, a2⟩ := key j hj
    have e0 : q = (nAt G α ρ h hq s b c j).1 := e
    rw [e0]
    exact ⟨hD.2 i1 _ a2, i1, _, by rw [nAll]; exact a2, rfl⟩
/-- a new object -/
def aT0 : wAb := (zs0, (0, fun _ => zs0), (0, zs0), (-5, -5))
theorem nO0 : zO 0 nM0 aT0 := by
  refine ⟨⟨zRel_0 ⟨fun c h1 h2 => ⟨rfl, rfl, rfl⟩, fun k h1 h2 => ?_, fun a b h1 h2 h3 h4 => ?_, ⟨rfl, rfl, rfl, rfl⟩, rfl, rfl⟩, zB_0, zX_0, zH_0, by decide⟩, ⟨by decide, rfl, by decide, fun i q1 q2 => ?_⟩, ⟨rfl, Or.inl rfl, fun q => absurd q (by decide)⟩, ⟨by decide, fun j q1 q2 => ?_, fun j _ => rfl⟩, rfl, rfl⟩
  · unfold zRe
    simp [nM0]
  · rcases (show a = 0 ∨ a = 1 ∨ a = 2 ∨ a = 3 ∨ a = 4 ∨ a = 5 ∨ a = 6 ∨ a = 7 ∨ a = 8 by omega) with rfl | rfl | rfl | rfl | rfl | rfl | rfl | rfl | rfl <;> rfl
  · have q3 : i < 0 := q2
    omega
  · have q3 : j < 0 := q2
    omega
theorem nT0 : wTx nM0 (fun _ => 0) 0 := ⟨rfl, fun j _ => rfl⟩
