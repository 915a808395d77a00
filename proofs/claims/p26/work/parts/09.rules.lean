/-! ===== positions ===== -/
theorem zP_r0 {p : Int} (h : zP p) : 0 ≤ p ∧ p < 187 := by obtain ⟨h1, h2, h3⟩ := h; omega
theorem zP_r {p : Int} (h : zP p) (i : Int) (hi : 0 ≤ i ∧ i < 25) : 0 ≤ p + i ∧ p + i < 187 := by obtain ⟨h1, h2, h3⟩ := h; omega
theorem zP_0 : zP 0 := by unfold zP; omega
theorem zP_25 : zP 25 := by unfold zP; omega
theorem zP_50 : zP 50 := by unfold zP; omega
theorem zsh175 : zm_sh 175 = .inr (.inl (4, [some (-175), some (-150), some (-125), none, some (1), some (3), some (9), none, none])) := rfl
theorem zsh176 : zm_sh 176 = .inr (.inl (0, [some (1), none, none])) := rfl
theorem zsh177 : zm_sh 177 = .inr (.inr (3, -102, 25, 4)) := rfl
theorem zsh178 : zm_sh 178 = .inr (.inl (2, [some (1), none, none, none, some (2), some (3), some (4), some (5)])) := rfl
theorem zsh179 : zm_sh 179 = .inl (1, 60) := rfl
theorem zsh180 : zm_sh 180 = .inl (0, 21) := rfl
theorem zsh181 : zm_sh 181 = .inl (0, 21) := rfl
theorem zsh182 : zm_sh 182 = .inl (0, 21) := rfl
theorem zsh183 : zm_sh 183 = .inl (0, 21) := rfl
theorem zsh184 : zm_sh 184 = .inr (.inl (3, [some (1), some (2)])) := rfl
theorem zsh185 : zm_sh 185 = .inl (0, 120) := rfl
theorem zsh186 : zm_sh 186 = .inl (0, 120) := rfl
theorem zsh_row {p x : Int} (h : zP p) (hx : 0 ≤ x ∧ x < 9) : zm_sh (p + 15 + x) = .inl (0, 9) := by
  have e := zm_sh_p h (15 + x) (by omega)
  rw [← Int.add_assoc] at e
  rw [e]
  rcases (show x = 0 ∨ x = 1 ∨ x = 2 ∨ x = 3 ∨ x = 4 ∨ x = 5 ∨ x = 6 ∨ x = 7 ∨ x = 8 by omega) with rfl | rfl | rfl | rfl | rfl | rfl | rfl | rfl | rfl <;> rfl
theorem zr_row {p x : Int} (h : zP p) (hx : 0 ≤ x ∧ x < 9) : 0 ≤ p + 15 + x ∧ p + 15 + x < 187 := by obtain ⟨h1, h2, h3⟩ := h; omega
theorem zsub' {G : zG} {Y : zY} {Q : Option zV → zM → Prop} {pc : Nat} {lo l2 : List (Nat × zV)} {st : List zV} {M : zM} (k : zW G Y Q pc l2 st M) (h : zall lo l2) : zW G Y Q pc lo st M := zsub h k
/-! ===== the reference's row of numbers, apart from all else ===== -/
abbrev zS : Type := Int → Int
def zu (σ : zS) (i v : Int) : zS := fun j => if j = i then v else σ j
theorem zu_at {σ : zS} {i v : Int} : zu σ i v i = v := by simp [zu]
theorem zu_ne {σ : zS} {i v j : Int} (h : j ≠ i) : zu σ i v j = σ j := by simp [zu, h]
section ZT
variable {G : zG} {Y : zY} {Q : Option zV → zM → Prop} {pc : Nat} {lo : List (Nat × zV)} {st : List zV} {M : zM} {σ : zS}
end ZT
/-! ===== the rules, over the reference's row of numbers ===== -/
/-- a loop from k up to m -/
def zforN {α : Type} (f : Int → α → α) : Nat → Int → α → α
  | 0, _, a => a
  | n + 1, k, a => zforN f n (k + 1) (f k a)
def zfor {α : Type} (f : Int → α → α) (k m : Int) (a : α) : α := zforN f (m - k).toNat k a
theorem zfor_end {α : Type} {f : Int → α → α} {k m : Int} {a : α} (h : m ≤ k) : zfor f k m a = a := by
  unfold zfor
  rw [show (m - k).toNat = 0 by omega]
  rfl
theorem zfor_step {α : Type} {f : Int → α → α} {k m : Int} {a : α} (h : k < m) : zfor f k m a = zfor f (k + 1) m (f k a) := by
  unfold zfor
  rw [show (m - k).toNat = (m - (k + 1)).toNat + 1 by omega]
  rfl
/-- the first from k up to m, or -5 -/
def zfindN (P : Int → Bool) : Nat → Int → Int
  | 0, _ => -5
  | n + 1, k => if P k = true then k else zfindN P n (k + 1)
def zfind (P : Int → Bool) (k m : Int) : Int := zfindN P (m - k).toNat k
theorem zfind_end {P : Int → Bool} {k m : Int} (h : m ≤ k) : zfind P k m = -5 := by
  unfold zfind
  rw [show (m - k).toNat = 0 by omega]
  rfl
theorem zfind_step {P : Int → Bool} {k m : Int} (h : k < m) : zfind P k m = if P k = true then k else zfind P (k + 1) m := by
  unfold zfind
  rw [show (m - k).toNat = (m - (k + 1)).toNat + 1 by omega]
  rfl
theorem zfind_r (P : Int → Bool) : ∀ (n : Nat) (k m : Int), m ≤ k + n → zfind P k m = -5 ∨ (k ≤ zfind P k m ∧ zfind P k m < m)
  | 0, k, m, h => Or.inl (zfind_end (by omega))
  | n + 1, k, m, h => by
    by_cases hk : k < m
    · rw [zfind_step hk]
      split
      · right; omega
      · have := zfind_r P n (k + 1) m (by omega)
        omega
    · exact Or.inl (zfind_end (by omega))
/-- the snail on a cell, or -5 -/
def sOnP (σ : zS) (lane row k : Int) : Bool := decide (σ (360 + 10 * k + 3) = 0 ∧ σ (360 + 10 * k + 0) = lane ∧ σ (360 + 10 * k + 1) = row)
def sOn (σ : zS) (lane row : Int) : Int := zfind (sOnP σ lane row) 0 (σ 535)
theorem sOnP_t {σ : zS} {lane row k : Int} (h : σ (360 + 10 * k + 3) = 0 ∧ σ (360 + 10 * k + 0) = lane ∧ σ (360 + 10 * k + 1) = row) : sOnP σ lane row k = true := decide_eq_true h
theorem sOnP_f {σ : zS} {lane row k : Int} (h : ¬ (σ (360 + 10 * k + 3) = 0 ∧ σ (360 + 10 * k + 0) = lane ∧ σ (360 + 10 * k + 1) = row)) : ¬ sOnP σ lane row k = true := fun q => h (of_decide_eq_true q)
def sWhy (σ : zS) (k c : Int) : Int := if σ (120 + c) - 1 < 0 then 1 else if σ (120 + c) - 1 = k then 2 else if σ (360 + 10 * k + 8) = σ (120 + c) - 1 + 1 ∧ σ (360 + 10 * k + 9) ≥ σ 532 then 3 else 0
def sLn (lane step : Int) : Int := if step = 0 then lane else if step = 1 then lane - 1 else lane + 1
theorem sLn_r {lane : Int} (h : 0 ≤ lane ∧ lane ≤ 5) (step : Int) : -1 ≤ sLn lane step ∧ sLn lane step ≤ 6 := by
  unfold sLn
  repeat' split
  all_goals omega
/-- what a step costs, or -5 -/
def sPr (σ : zS) (k step : Int) : Int :=
  if (0 ≤ sLn (σ (360 + 10 * k + 0)) step ∧ sLn (σ (360 + 10 * k + 0)) step ≤ 5) ∧ (0 ≤ σ (360 + 10 * k + 1) + 1 ∧ σ (360 + 10 * k + 1) + 1 ≤ 19) then
    if sOn σ (sLn (σ (360 + 10 * k + 0)) step) (σ (360 + 10 * k + 1) + 1) ≠ -5 then -5
    else if sWhy σ k (6 * (σ (360 + 10 * k + 1) + 1) + sLn (σ (360 + 10 * k + 0)) step) = 0 ∨ sWhy σ k (6 * (σ (360 + 10 * k + 1) + 1) + sLn (σ (360 + 10 * k + 0)) step) = 2 then 1
    else 1 + σ (6 * (σ (360 + 10 * k + 1) + 1) + sLn (σ (360 + 10 * k + 0)) step)
  else -5
/-- what always holds of the row of numbers: of cells, of snails, of settings -/
def zIc (σ : zS) (c : Int) : Prop := 0 ≤ σ c ∧ σ c ≤ 9 ∧ 0 ≤ σ (120 + c) ∧ σ (120 + c) ≤ 9 ∧ 0 ≤ σ (240 + c) ∧ σ (240 + c) ≤ 100
def zIk (σ : zS) (k : Int) : Prop := (0 ≤ σ (360 + 10 * k + 0) ∧ σ (360 + 10 * k + 0) ≤ 5) ∧ (0 ≤ σ (360 + 10 * k + 1) ∧ σ (360 + 10 * k + 1) ≤ 19) ∧ (0 ≤ σ (360 + 10 * k + 2) ∧ σ (360 + 10 * k + 2) ≤ 99) ∧ (0 ≤ σ (360 + 10 * k + 3) ∧ σ (360 + 10 * k + 3) ≤ 2) ∧ (0 ≤ σ (360 + 10 * k + 8) ∧ σ (360 + 10 * k + 8) ≤ 9) ∧ (0 ≤ σ (360 + 10 * k + 9) ∧ σ (360 + 10 * k + 9) ≤ σ (360 + 10 * k + 1))
def zIs (σ : zS) : Prop := (0 ≤ σ 531 ∧ σ 531 ≤ 99) ∧ (1 ≤ σ 532 ∧ σ 532 ≤ 9) ∧ (1 ≤ σ 533 ∧ σ 533 ≤ 20) ∧ (1 ≤ σ 534 ∧ σ 534 ≤ 50) ∧ (0 ≤ σ 535 ∧ σ 535 ≤ 9)
def zI (σ : zS) : Prop := zIs σ ∧ (∀ c : Int, 0 ≤ c → c < 120 → zIc σ c) ∧ (∀ k : Int, 0 ≤ k → k < 9 → zIk σ k)
theorem sOn_r {σ : zS} (hI : zI σ) (lane row : Int) : sOn σ lane row = -5 ∨ (0 ≤ sOn σ lane row ∧ sOn σ lane row < σ 535) := by
  have h2 := hI.1.2.2.2.2
  exact zfind_r _ (σ 535).toNat 0 (σ 535) (by omega)
theorem sWhy_r (σ : zS) (k c : Int) : 0 ≤ sWhy σ k c ∧ sWhy σ k c ≤ 3 := by
  unfold sWhy
  repeat' split
  all_goals omega
theorem sPr_r {σ : zS} (hI : zI σ) {k : Int} (hk : 0 ≤ k ∧ k < 9) (step : Int) : sPr σ k step = -5 ∨ (1 ≤ sPr σ k step ∧ sPr σ k step ≤ 10) := by
  have hk9 := hI.2.2 k hk.1 hk.2
  unfold zIk at hk9
  unfold sPr
  generalize sLn (σ (360 + 10 * k + 0)) step = x
  split
  · split
    · left; rfl
    · split
      · right; omega
      · have hc := hI.2.1 (6 * (σ (360 + 10 * k + 1) + 1) + x) (by omega) (by omega)
        unfold zIc at hc
        right; omega
  · left; rfl
/-- why a snail can't be set, or 0 -/
def sBarS (σ : zS) (lane slime : Int) : Int := if ¬ (0 ≤ lane ∧ lane ≤ 5) then -1 else if ¬ (0 ≤ slime ∧ slime ≤ 99) then -2 else if sOn σ lane 0 ≠ -5 then -4 else if σ 535 = 8 then -3 else 0
def sMost (w : Int) : Int := if w = 0 then 99 else if w = 1 then 9 else if w = 2 then 20 else 50
/-- the choice of a step -/
def sCs (σ : zS) (k s f : Int) : Int := if sPr σ k s ≠ -5 ∧ (f = 4 ∨ sPr σ k s < sPr σ k f) then s else f
def sCb (σ : zS) (k : Int) : Int := zfor (sCs σ k) 0 3 4
def sCh (σ : zS) (k : Int) : Int := if sCb σ k < 4 ∧ sPr σ k (sCb σ k) > σ (360 + 10 * k + 2) then 3 else sCb σ k
/-- a step: what it costs, that it was, whose trail it borrows, the trail that is left, the row, the end -/
def sC1 (σ : zS) (k step : Int) : zS := zu σ (360 + 10 * k + 2) (σ (360 + 10 * k + 2) - sPr σ k step)
def sC2 (σ : zS) (k : Int) : zS := zu σ (360 + 10 * k + 5) (σ (360 + 10 * k + 5) + 1)
def sCrA (σ : zS) (k w : Int) : zS := zu (zu σ (360 + 10 * k + 9) (if σ (360 + 10 * k + 8) = w then σ (360 + 10 * k + 9) + 1 else 1)) (360 + 10 * k + 8) w
def sCrC (σ : zS) (k : Int) : zS := zu σ (360 + 10 * k + 6) (σ (360 + 10 * k + 6) + 1)
def sCrD (σ : zS) (k w : Int) : zS := zu σ (450 + 9 * k + w - 1) (σ (450 + 9 * k + w - 1) + 1)
def sC3 (σ : zS) (k y w : Int) : zS := if y = 0 then sCrD (sCrC (sCrA σ k w) k) k w else zu (zu σ (360 + 10 * k + 8) 0) (360 + 10 * k + 9) 0
def sC4 (σ : zS) (k c0 ln : Int) : zS := zu (zu (zu σ (120 + c0) (k + 1)) (240 + c0) 0) (360 + 10 * k + 0) ln
def sC5 (σ : zS) (k : Int) : zS := zu σ (360 + 10 * k + 1) (σ (360 + 10 * k + 1) + 1)
def sC7 (σ : zS) (k : Int) : zS := zu (zu σ 537 (σ 537 + 1)) (360 + 10 * k + 3) 1
def sC6 (σ : zS) (k : Int) : zS := if σ (360 + 10 * k + 1) = 19 then zu (sC7 σ k) (360 + 10 * k + 4) ((sC7 σ k) 537) else σ
def sTo (σ : zS) (k step : Int) : Int := 6 * (σ (360 + 10 * k + 1) + 1) + sLn (σ (360 + 10 * k + 0)) step
def sFrom (σ : zS) (k : Int) : Int := 6 * σ (360 + 10 * k + 1) + σ (360 + 10 * k + 0)
def sCreep (σ : zS) (k step : Int) : zS := sC6 (sC5 (sC4 (sC3 (sC2 (sC1 σ k step) k) k (sWhy σ k (sTo σ k step)) ((sC2 (sC1 σ k step) k) (120 + sTo σ k step))) k (sFrom σ k) (sLn (σ (360 + 10 * k + 0)) step)) k) k
/-- a rest -/
def sC8 (σ : zS) (k : Int) : zS := zu (zu σ (360 + 10 * k + 2) (if σ (360 + 10 * k + 2) + σ 533 > 99 then 99 else σ (360 + 10 * k + 2) + σ 533)) (360 + 10 * k + 7) ((zu σ (360 + 10 * k + 2) (if σ (360 + 10 * k + 2) + σ 533 > 99 then 99 else σ (360 + 10 * k + 2) + σ 533)) (360 + 10 * k + 7) + 1)
def sRest (σ : zS) (k : Int) : zS := zu (zu (sC8 σ k) (360 + 10 * k + 8) 0) (360 + 10 * k + 9) 0
theorem sPr_ok {σ : zS} {k step : Int} (h : sPr σ k step ≠ -5) : (0 ≤ sLn (σ (360 + 10 * k + 0)) step ∧ sLn (σ (360 + 10 * k + 0)) step ≤ 5) ∧ (0 ≤ σ (360 + 10 * k + 1) + 1 ∧ σ (360 + 10 * k + 1) + 1 ≤ 19) := by
  unfold sPr at h
  split at h
  · assumption
  · exact absurd rfl h
theorem sC3_off {σ : zS} {k y w j : Int} (h1 : j ≠ 360 + 10 * k + 6) (h2 : j ≠ 360 + 10 * k + 8) (h3 : j ≠ 360 + 10 * k + 9) (h4 : j ≠ 450 + 9 * k + w - 1) : sC3 σ k y w j = σ j := by
  unfold sC3 sCrD sCrC sCrA
  split
  · rw [zu_ne h4, zu_ne h1, zu_ne h2, zu_ne h3]
  · rw [zu_ne h3, zu_ne h2]

