/-! ===== what the reference answers ===== -/
def sSnail (σ : zS) (k w : Int) : Int := if ¬ (0 ≤ k ∧ k < σ 535) then -1 else if ¬ (0 ≤ w ∧ w ≤ 9) then -2 else if w = 4 then (if σ (360 + 10 * k + w) = 0 then -5 else σ (360 + 10 * k + w)) else if w = 8 then (if σ (360 + 10 * k + w) = 0 then -5 else σ (360 + 10 * k + w) - 1) else σ (360 + 10 * k + w)
def sCell (σ : zS) (lane row w : Int) : Int := if ¬ ((0 ≤ lane ∧ lane ≤ 5) ∧ (0 ≤ row ∧ row ≤ 19)) then -1 else if w = 0 then σ (6 * row + lane) else if w = 1 then (if σ (120 + (6 * row + lane)) = 0 then -5 else σ (120 + (6 * row + lane)) - 1) else if w = 2 then (if σ (120 + (6 * row + lane)) = 0 then -5 else σ (240 + (6 * row + lane))) else if w = 3 then sOn σ lane row else -2
def sCost (σ : zS) (k s : Int) : Int := if ¬ (0 ≤ k ∧ k < σ 535) then -1 else if ¬ (0 ≤ s ∧ s ≤ 2) then -2 else if σ (360 + 10 * k + 3) = 0 then sPr σ k s else -4
def sDoes (σ : zS) (k : Int) : Int := if ¬ (0 ≤ k ∧ k < σ 535) then -1 else if σ (360 + 10 * k + 3) = 0 then sCh σ k else -4
def sReason (σ : zS) (k lane row : Int) : Int := if ¬ (0 ≤ k ∧ k < σ 535) ∨ ¬ ((0 ≤ lane ∧ lane ≤ 5) ∧ (0 ≤ row ∧ row ≤ 19)) then -1 else sWhy σ k (6 * row + lane)
def sOwes (σ : zS) (k o : Int) : Int := if ¬ (0 ≤ k ∧ k < σ 535) ∨ ¬ (0 ≤ o ∧ o < σ 535) then -1 else if k = o then -2 else σ (450 + 9 * k + o)
/-- who leads -/
def sLeadF (σ : zS) (k f : Int) : Int := if σ (360 + 10 * k + 3) = 0 ∧ (f = -5 ∨ σ (360 + 10 * k + 1) > σ (360 + 10 * f + 1) ∨ (σ (360 + 10 * k + 1) = σ (360 + 10 * f + 1) ∧ σ (360 + 10 * k + 2) > σ (360 + 10 * f + 2))) then k else f
def sLead (σ : zS) : Int := zfor (sLeadF σ) 0 (σ 535) (-5)
/-- counts and sums -/
def sIn (σ : zS) (w : Int) : Int := zfor (fun k n => n + if σ (360 + 10 * k + 3) = w then 1 else 0) 0 (σ 535) 0
def sOf (σ : zS) (w : Int) : Int := zfor (fun k n => n + σ (360 + 10 * k + w)) 0 (σ 535) 0
def sTrl (σ : zS) : Int := zfor (fun c n => n + if σ (120 + c) > 0 then 1 else 0) 0 120 0
def sFro (σ : zS) : Int := zfor (fun c n => n + σ c) 0 120 0
def sCount (σ : zS) (pasts len w : Int) : Int := if w = 0 then σ 536 else if w = 1 then σ 535 else if w = 2 then sIn σ 0 else if w = 3 then sIn σ 1 else if w = 4 then sTrl σ else if w = 5 then sFro σ else if w = 6 then sOf σ 5 else if w = 7 then sOf σ 6 else if w = 8 then sOf σ 7 else if 9 ≤ w ∧ w ≤ 12 then σ (531 + w - 9) else if w = 13 then pasts else if w = 14 then len else -2
/-- the least sums of ways up: n rows below the rim -/
def sWayF (σ : zS) (u : Int → Int) (r l step least : Int) : Int :=
  if (0 ≤ sLn l step ∧ sLn l step ≤ 5) ∧ (least = -5 ∨ u (sLn l step) + 1 + σ (6 * (r + 1) + sLn l step) < least) then u (sLn l step) + 1 + σ (6 * (r + 1) + sLn l step) else least
def sWayR (σ : zS) (u : Int → Int) (r l : Int) : Int := zfor (sWayF σ u r l) 0 3 (-5)
def sWayN (σ : zS) : Nat → Int → Int
  | 0, _ => 0
  | n + 1, l => sWayR σ (sWayN σ n) (18 - n) l
def sWay (σ : zS) (lane row w : Int) : Int := if ¬ ((0 ≤ lane ∧ lane ≤ 5) ∧ (0 ≤ row ∧ row ≤ 19)) then -1 else if ¬ (0 ≤ w ∧ w ≤ 1) then -2 else sWayN σ (19 - row).toNat lane
def sEndsIn (σ : zS) (k : Int) : Int := if ¬ (0 ≤ k ∧ k < σ 535) then -1 else if σ (360 + 10 * k + 3) = 2 then -4 else sEnds k 0 σ
/-- the best lane: lane and turns -/
def sBestF (σ : zS) (slime lane : Int) (x : Int × Int) : Int × Int := if sOn σ lane 0 = -5 ∧ sEnds (σ 535) 0 (sCome σ lane slime) ≠ -5 ∧ (x.1 = -5 ∨ sEnds (σ 535) 0 (sCome σ lane slime) < x.2) then (lane, sEnds (σ 535) 0 (sCome σ lane slime)) else x
def sBest (σ : zS) (slime : Int) : Int × Int := zfor (sBestF σ slime) 0 6 (-5, -5)
def sBestLane (σ : zS) (slime w : Int) : Int := if ¬ (0 ≤ slime ∧ slime ≤ 99) ∨ ¬ (0 ≤ w ∧ w ≤ 1) then -2 else if w = 0 then (sBest σ slime).1 else (sBest σ slime).2
def sStopped (M : zM) (w : Int) : Int := if ¬ (0 ≤ w ∧ w ≤ 1) then -2 else if M 187 8 = 0 then -5 else if w = 0 then M 187 9 else M 187 10
/-- an act: the state before goes into the history -/
def zDone (M : zM) (σ σ' : zS) (M' : zM) : Prop := ∃ N : zM, M' = zt N σ' ∧ zRec M σ N
theorem sBarS_r (σ : zS) (lane slime : Int) : sBarS σ lane slime = 0 ∨ (-4 ≤ sBarS σ lane slime ∧ sBarS σ lane slime < 0) := by
  unfold sBarS
  repeat' split
  all_goals omega
theorem sBarF_r (σ : zS) (lane row f : Int) : sBarF σ lane row f = 0 ∨ (-5 ≤ sBarF σ lane row f ∧ sBarF σ lane row f < 0) := by
  unfold sBarF
  repeat' split
  all_goals omega
theorem sBarT_r (σ : zS) (t : Int) : sBarT σ t = 0 ∨ (-5 ≤ sBarT σ t ∧ sBarT σ t < 0) := by
  unfold sBarT
  repeat' split
  all_goals omega
theorem sBarS_0 {σ : zS} {lane slime : Int} (h : sBarS σ lane slime = 0) : (0 ≤ lane ∧ lane ≤ 5) ∧ (0 ≤ slime ∧ slime ≤ 99) ∧ sOn σ lane 0 = -5 ∧ σ 535 ≠ 8 := by
  unfold sBarS at h
  split at h
  · omega
  · split at h
    · omega
    · split at h
      · omega
      · split at h
        · omega
        · omega
theorem sBarF_0 {σ : zS} {lane row f : Int} (h : sBarF σ lane row f = 0) : (0 ≤ lane ∧ lane ≤ 5) ∧ (0 ≤ row ∧ row ≤ 19) ∧ (0 ≤ f ∧ f ≤ 9) := by
  unfold sBarF at h
  split at h
  · omega
  · split at h
    · omega
    · omega
theorem sBarT_0 {σ : zS} {t : Int} (h : sBarT σ t = 0) : (1 ≤ t ∧ t ≤ 99) ∧ σ 536 + t ≤ 99999 := by
  unfold sBarT at h
  split at h
  · omega
  · split at h
    · omega
    · omega
