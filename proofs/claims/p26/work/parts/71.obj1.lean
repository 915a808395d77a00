/-! ===== an object as a whole, its text apart ===== -/
theorem zCall.mono {G : zG} {y : MethodName} {Y : zY} {av : List zV} {M : zM} {Q Q' : Option zV → zM → Prop} (h : zCall G y Y av M Q) (hq : ∀ (v : Option zV) (M' : zM), Q v M' → Q' v M') : zCall G y Y av M Q' := by
  unfold zCall Met at h ⊢
  refine MetFree.mono h (fun _ _ z => z) (fun _ _ _ _ _ z => z) (fun a s o s' _ z => ?_)
  obtain ⟨⟨⟨v, M', h1, h2, h3⟩, h4⟩, h5⟩ := z
  exact ⟨⟨⟨v, M', h1, hq v M' h2, h3⟩, h4⟩, h5⟩
theorem zH_0 : zH zs0 := by
  refine ⟨fun k q1 q2 => ?_, fun a b q1 q2 => ?_, ⟨fun r q1 q2 => ?_, fun k q1 q2 => ?_⟩, fun c q1 q2 => zs0_z (by omega)⟩
  · rw [zs0_5] at q2; omega
  · rw [zs0_5] at q2; omega
  · rw [zs0_z (j := 537) (by omega)] at q2; omega
  · rw [zs0_5] at q2; omega
/-- the row, the history, the snapshot, the latest stop -/
abbrev wAb : Type := zS × (Int × (Int → zS)) × (Int × zS) × (Int × Int)
def zSn (b : Int) (M : zM) (p : Int) (σ : zS) : Prop := zRel M p σ ∧ zHK b σ
theorem zSn.mv {b : Int} {M N : zM} {p : Int} {σ : zS} (h : zSn b M p σ) (he : ∀ a : Int, p ≤ a → a < p + 25 → N a = M a) : zSn b N p σ := ⟨h.1.mv he, h.2⟩
theorem zSn.le {a b : Int} {M : zM} {p : Int} {σ : zS} (h : zSn a M p σ) (hab : a ≤ b) : zSn b M p σ := ⟨h.1, h.2.le hab⟩
def zHs (b : Int) (M : zM) (x : Int × (Int → zS)) : Prop := (0 ≤ M 176 2 ∧ M 176 2 < 4) ∧ M 176 1 = x.1 ∧ (0 ≤ x.1 ∧ x.1 ≤ 4) ∧ ∀ i : Int, 0 ≤ i → i < x.1 → zSn b M (75 + 25 * ((M 176 2 + 4 - x.1 + i) % 4)) (x.2 i)
def zSp (b : Int) (M : zM) (x : Int × zS) : Prop := M 175 3 = x.1 ∧ (x.1 = 0 ∨ x.1 = 1) ∧ (x.1 = 1 → zSn b M 50 x.2)
def zTt (M : zM) : Prop := (0 ≤ M 178 1 ∧ M 178 1 ≤ 60) ∧ (∀ j : Int, 0 ≤ j → j < M 178 1 → 0 ≤ M 179 j ∧ M 179 j < 65536) ∧ ∀ j : Int, j < 0 → M 179 j = 0
def zO (b : Int) (M : zM) (A : wAb) : Prop := zSn b M 0 A.1 ∧ zHs b M A.2.1 ∧ zSp b M A.2.2.1 ∧ zTt M ∧ M 175 7 = A.2.2.2.1 ∧ M 175 8 = A.2.2.2.2
theorem zHs.fr {b : Int} {M N : zM} {x : Int × (Int → zS)} (h : zHs b M x) (e : ∀ a : Int, (75 ≤ a ∧ a < 175) ∨ a = 176 → N a = M a) : zHs b N x := by
  obtain ⟨h1, h2, h3, h4⟩ := h
  unfold zHs
  rw [e 176 (by omega)]
  exact ⟨h1, h2, h3, fun i q1 q2 => (h4 i q1 q2).mv (fun a q3 q4 => e a (by omega))⟩
theorem zSp.fr {b : Int} {M N : zM} {x : Int × zS} (h : zSp b M x) (e : ∀ a : Int, (50 ≤ a ∧ a < 75) → N a = M a) (e3 : N 175 3 = M 175 3) : zSp b N x := ⟨e3.trans h.1, h.2.1, fun q => (h.2.2 q).mv (fun a q3 q4 => e a (by omega))⟩
theorem zTt.fr {M N : zM} (h : zTt M) (e : N 179 = M 179) (e1 : N 178 1 = M 178 1) : zTt N := by
  unfold zTt at h ⊢
  rw [e, e1]
  exact h
theorem zO.fr {b : Int} {M N : zM} {A : wAb} (h : zO b M A) (e : ∀ a : Int, a < 25 ∨ (50 ≤ a ∧ a < 177) → N a = M a) (et : zTt N) : zO b N A := by
  obtain ⟨h1, h2, h3, h4, h5, h6⟩ := h
  exact ⟨h1.mv (fun a q1 q2 => e a (by omega)), h2.fr (fun a q => e a (by omega)), h3.fr (fun a q => e a (by omega)) (by rw [e 175 (by omega)]), et, by rw [e 175 (by omega)]; exact h5, by rw [e 175 (by omega)]; exact h6⟩
theorem zO.kp {b : Int} {M N : zM} {A : wAb} (h : zO b M A) (k : zKp M N) : zO b N A := h.fr (fun a q => k.1 a (by omega)) (h.2.2.2.1.fr (k.1 179 (by omega)) k.2)
theorem zO.le {a b : Int} {M : zM} {A : wAb} (h : zO a M A) (hab : a ≤ b) : zO b M A := ⟨h.1.le hab, ⟨h.2.1.1, h.2.1.2.1, h.2.1.2.2.1, fun i q1 q2 => (h.2.1.2.2.2 i q1 q2).le hab⟩, ⟨h.2.2.1.1, h.2.2.1.2.1, fun q => (h.2.2.1.2.2 q).le hab⟩, h.2.2.2⟩
/-- the state before is recorded -/
def aHi (x : Int × (Int → zS)) (σ : zS) : Int × (Int → zS) := ((if x.1 = 4 then 4 else x.1 + 1), fun i => if x.1 = 4 then (if i = 3 then σ else x.2 (i + 1)) else (if i = x.1 then σ else x.2 i))
def aRec (A : wAb) (τ : zS) : wAb := (τ, aHi A.2.1 A.1, A.2.2)
theorem zHs.rec {b : Int} {M N : zM} {x : Int × (Int → zS)} {σ : zS} (h : zHs b M x) (hS : zHK b σ) (hR : zRel N (75 + 25 * M 176 2) σ) (ho : ∀ a : Int, (75 ≤ a ∧ a < 175) → (a < 75 + 25 * M 176 2 ∨ 100 + 25 * M 176 2 ≤ a) → N a = M a) (e1 : N 176 1 = (if M 176 1 = 4 then 4 else M 176 1 + 1)) (e2 : N 176 2 = (M 176 2 + 1) % 4) : zHs b N (aHi x σ) := by
  obtain ⟨h1, h2, h3, h4⟩ := h
  unfold zHs aHi
  rw [e2, e1, h2]
  dsimp only
  by_cases h44 : x.1 = 4
  · simp only [if_pos h44]
    refine ⟨by omega, trivial, by omega, fun i q1 q2 => ?_⟩
    by_cases hi : i = 3
    · subst hi
      rw [if_pos rfl, show ((M 176 2 + 1) % 4 + 4 - 4 + 3) % 4 = M 176 2 by omega]
      exact ⟨hR, hS⟩
    · rw [if_neg hi]
      have hz := h4 (i + 1) (by omega) (by omega)
      rw [show (M 176 2 + 4 - x.1 + (i + 1)) % 4 = ((M 176 2 + 1) % 4 + 4 - 4 + i) % 4 by omega] at hz
      have hp : (((M 176 2 + 1) % 4 + 4 - 4 + i) % 4 < M 176 2 ∨ M 176 2 < ((M 176 2 + 1) % 4 + 4 - 4 + i) % 4) ∧ 0 ≤ ((M 176 2 + 1) % 4 + 4 - 4 + i) % 4 ∧ ((M 176 2 + 1) % 4 + 4 - 4 + i) % 4 < 4 := by omega
      exact hz.mv (fun a q3 q4 => ho a (by omega) (by omega))
  · simp only [if_neg h44]
    refine ⟨by omega, trivial, by omega, fun i q1 q2 => ?_⟩
    by_cases hi : i = x.1
    · rw [if_pos hi, show ((M 176 2 + 1) % 4 + 4 - (x.1 + 1) + i) % 4 = M 176 2 by omega]
      exact ⟨hR, hS⟩
    · rw [if_neg hi]
      have hz := h4 i (by omega) (by omega)
      rw [show (M 176 2 + 4 - x.1 + i) % 4 = ((M 176 2 + 1) % 4 + 4 - (x.1 + 1) + i) % 4 by omega] at hz
      have hp : (((M 176 2 + 1) % 4 + 4 - (x.1 + 1) + i) % 4 < M 176 2 ∨ M 176 2 < ((M 176 2 + 1) % 4 + 4 - (x.1 + 1) + i) % 4) ∧ 0 ≤ ((M 176 2 + 1) % 4 + 4 - (x.1 + 1) + i) % 4 ∧ ((M 176 2 + 1) % 4 + 4 - (x.1 + 1) + i) % 4 < 4 := by omega
      exact hz.mv (fun a q3 q4 => ho a (by omega) (by omega))
theorem zO.did {b : Int} {M N : zM} {A : wAb} {τ : zS} (h : zO b M A) (hd : zDid M A.1 τ N) (hK : zHK b τ) : zO b N (aRec A τ) := by
  obtain ⟨h1, h2, h3, h4, h5, h6⟩ := h
  obtain ⟨d1, d2, d3, d4, d5, d6⟩ := hd
  have hn := h2.1
  have e5 : N 175 = M 175 := d3 175 (by omega) (by decide) (by omega)
  refine ⟨⟨d1, hK⟩, h2.rec h1.2 d2 (fun a q1 q2 => d3 a (by omega) (by omega) q2) d5 d6, h3.fr (fun a q => d3 a (by omega) (by omega) (by omega)) (by rw [e5]), h4.fr (d3 179 (by omega) (by decide) (by omega)) d4, ?_, ?_⟩
  · rw [e5]; exact h5
  · rw [e5]; exact h6
def aOp (A : wAb) (b r : Int) (τ : zS) : Int × wAb := if b < 0 then (b, A) else (r, aRec A τ)
theorem zO.act {b : Int} {M N : zM} {A : wAb} {τ : zS} {bar r : Int} {v : Option zV} (h : zO b M A) (ha : zActP M A.1 bar r τ v N) (hK : bar = 0 → zHK b τ) : v = some (.inl (aOp A bar r τ).1) ∧ zO b N (aOp A bar r τ).2 := by
  unfold aOp
  rcases ha with ⟨h1, h2, h3⟩ | ⟨h1, h2, h3⟩
  · rw [if_pos h1]
    exact ⟨h2, h.kp h3⟩
  · rw [if_neg (by omega)]
    exact ⟨h2, h.did h3 (hK h1)⟩
section ZT
variable {G : zG} {b : Int} {M : zM} {A : wAb}
theorem zO.p (h : zO b M A) : zB A.1 ∧ zX A.1 ∧ zH A.1 ∧ zRel M 0 A.1 ∧ (0 ≤ M 176 1 ∧ M 176 1 ≤ 4) ∧ (0 ≤ M 176 2 ∧ M 176 2 < 4) := ⟨h.1.2.1, h.1.2.2.1, h.1.2.2.2.1, h.1.1, by rw [h.2.1.2.1]; exact h.2.1.2.2.1, h.2.1.1⟩
/-! what is told -/
theorem t_snail {k w : Int} (hk : -2147483648 ≤ k ∧ k < 2147483648) (hw : -2147483648 ≤ w ∧ w < 2147483648) (h : zO b M A) : zCall G yX4_snail YX4_snail [.inr (some 175), .inl k, .inl w] M (fun v M' => v = some (.inl (sSnail A.1 k w)) ∧ zO b M' A) := (vX4_snail hk hw h.p.2.2.2.1 h.p.1.1.1).mono (fun v M' q => ⟨q.2, q.1 ▸ h⟩)
theorem t_cell {lane row w : Int} (hl : -2147483648 ≤ lane ∧ lane < 2147483648) (hr : -2147483648 ≤ row ∧ row < 2147483648) (hw : -2147483648 ≤ w ∧ w < 2147483648) (h : zO b M A) : zCall G yX4_cell YX4_cell [.inr (some 175), .inl lane, .inl row, .inl w] M (fun v M' => v = some (.inl (sCell A.1 lane row w)) ∧ zO b M' A) := (vX4_cell hl hr hw h.p.2.2.2.1 h.p.1.1.1).mono (fun v M' q => ⟨q.2, q.1 ▸ h⟩)
theorem t_cost {k s : Int} (hk : -2147483648 ≤ k ∧ k < 2147483648) (hs : -2147483648 ≤ s ∧ s < 2147483648) (h : zO b M A) : zCall G yX4_cost YX4_cost [.inr (some 175), .inl k, .inl s] M (fun v M' => v = some (.inl (sCost A.1 k s)) ∧ zO b M' A) := (vX4_cost hk hs h.p.2.2.2.1 h.p.1.1.1).mono (fun v M' q => ⟨q.2, q.1 ▸ h⟩)
theorem t_does {k : Int} (hk : -2147483648 ≤ k ∧ k < 2147483648) (h : zO b M A) : zCall G yX4_does YX4_does [.inr (some 175), .inl k] M (fun v M' => v = some (.inl (sDoes A.1 k)) ∧ zO b M' A) := (vX4_does hk h.p.2.2.2.1 h.p.1.1.1).mono (fun v M' q => ⟨q.2, q.1 ▸ h⟩)
theorem t_reason {k lane row : Int} (hk : -2147483648 ≤ k ∧ k < 2147483648) (hl : -2147483648 ≤ lane ∧ lane < 2147483648) (hr : -2147483648 ≤ row ∧ row < 2147483648) (h : zO b M A) : zCall G yX4_reason YX4_reason [.inr (some 175), .inl k, .inl lane, .inl row] M (fun v M' => v = some (.inl (sReason A.1 k lane row)) ∧ zO b M' A) := (vX4_reason hk hl hr h.p.2.2.2.1 h.p.1.1.1).mono (fun v M' q => ⟨q.2, q.1 ▸ h⟩)
theorem t_leader (h : zO b M A) : zCall G yX4_leader YX4_leader [.inr (some 175)] M (fun v M' => v = some (.inl (sLead A.1)) ∧ zO b M' A) := (vX4_leader h.p.2.2.2.1 h.p.1.1.1).mono (fun v M' q => ⟨q.2, q.1 ▸ h⟩)
theorem t_owes {k o : Int} (hk : -2147483648 ≤ k ∧ k < 2147483648) (ho : -2147483648 ≤ o ∧ o < 2147483648) (h : zO b M A) : zCall G yX4_owes YX4_owes [.inr (some 175), .inl k, .inl o] M (fun v M' => v = some (.inl (sOwes A.1 k o)) ∧ zO b M' A) := (vX4_owes hk ho h.p.2.2.2.1 h.p.1.1.1).mono (fun v M' q => ⟨q.2, q.1 ▸ h⟩)
theorem t_count {w : Int} (hw : -2147483648 ≤ w ∧ w < 2147483648) (h14 : w ≠ 14) (h : zO b M A) : zCall G yX4_count YX4_count [.inr (some 175), .inl w] M (fun v M' => v = some (.inl (sCount A.1 A.2.1.1 0 w)) ∧ zO b M' A) := (vX4_count hw h.p.2.2.2.1 h.p.1.1.1).mono (fun v M' q => ⟨by
  rw [q.2, h.2.1.2.1]
  simp only [sCount, if_neg h14], q.1 ▸ h⟩)
theorem t_stopped {w : Int} (hw : -2147483648 ≤ w ∧ w < 2147483648) (h : zO b M A) : zCall G yX4_stopped YX4_stopped [.inr (some 175), .inl w] M (fun v M' => v = some (.inl (if w = 0 then A.2.2.2.1 else if w = 1 then A.2.2.2.2 else -2)) ∧ zO b M' A) := (vX4_stopped hw).mono (fun v M' q => ⟨by rw [q.2, h.2.2.2.2.1, h.2.2.2.2.2], q.1 ▸ h⟩)
theorem t_endsIn {k : Int} (hk : -2147483648 ≤ k ∧ k < 2147483648) (h : zO b M A) : zCall G yX4_endsIn YX4_endsIn [.inr (some 175), .inl k] M (fun v M' => v = some (.inl (sEndsIn A.1 k)) ∧ zO b M' A) := (vX4_endsIn hk h.p.2.2.2.1 h.p.1 h.p.2.1).mono (fun v M' q => ⟨q.1, h.kp q.2⟩)
theorem t_wayUp {lane row w : Int} (hl : -2147483648 ≤ lane ∧ lane < 2147483648) (hr : -2147483648 ≤ row ∧ row < 2147483648) (hw : -2147483648 ≤ w ∧ w < 2147483648) (h : zO b M A) : zCall G yX4_wayUp YX4_wayUp [.inr (some 175), .inl lane, .inl row, .inl w] M (fun v M' => v = some (.inl (sWay A.1 lane row w)) ∧ zO b M' A) := (vX4_wayUp hl hr hw h.p.2.2.2.1 h.p.1.1.1).mono (fun v M' q => ⟨q.1, h.kp q.2⟩)
theorem t_bestLane {s w : Int} (hs : -2147483648 ≤ s ∧ s < 2147483648) (hw : -2147483648 ≤ w ∧ w < 2147483648) (h : zO b M A) : zCall G yX4_bestLane YX4_bestLane [.inr (some 175), .inl s, .inl w] M (fun v M' => v = some (.inl (sBestLane A.1 s w)) ∧ zO b M' A) := (vX4_bestLane hs hw h.p.2.2.2.1 h.p.1 h.p.2.1).mono (fun v M' q => ⟨q.1, h.kp q.2⟩)
/-! acts -/
theorem a_setSnail {lane slime : Int} (hl : -2147483648 ≤ lane ∧ lane < 2147483648) (hs : -2147483648 ≤ slime ∧ slime < 2147483648) (h : zO b M A) : zCall G yX4_setSnail YX4_setSnail [.inr (some 175), .inl lane, .inl slime] M (fun v M' => v = some (.inl (aOp A (sBarS A.1 lane slime) (A.1 535) (sCome A.1 lane slime)).1) ∧ zO b M' (aOp A (sBarS A.1 lane slime) (A.1 535) (sCome A.1 lane slime)).2) := by
  obtain ⟨hB, hX, hH, hR, h1, h2⟩ := h.p
  have hs9 := zI_m hB.1.1
  refine (vX4_setSnail hl hs hR hB hX h1 h2).mono (fun v M' q => h.act q (fun e => ?_))
  obtain ⟨q1, q2, q3, q4⟩ := sBarS_0 e
  have hz := zB_eff hB (kd := 115) (a := lane) (b := slime) (c := 0) (by unfold sBarK; rw [if_pos rfl]; exact e)
  exact ⟨hz.1, zX_come hX (by have := hB.2.1; omega) lane slime, zH_come hB.1.1 hX hH hB.2.1 q3, by rw [sCo_off (by have := hB.2.1; omega) (by have := hB.2.1; omega)]; exact h.1.2.2.2.2⟩
theorem a_setFrost {lane row f : Int} (hl : -2147483648 ≤ lane ∧ lane < 2147483648) (hr : -2147483648 ≤ row ∧ row < 2147483648) (hf : -2147483648 ≤ f ∧ f < 2147483648) (h : zO b M A) : zCall G yX4_setFrost YX4_setFrost [.inr (some 175), .inl lane, .inl row, .inl f] M (fun v M' => v = some (.inl (aOp A (sBarF A.1 lane row f) (if sBarF A.1 lane row f = 0 then A.1 (6 * row + lane) else 0) (sFz A.1 (6 * row + lane) f)).1) ∧ zO b M' (aOp A (sBarF A.1 lane row f) (if sBarF A.1 lane row f = 0 then A.1 (6 * row + lane) else 0) (sFz A.1 (6 * row + lane) f)).2) := by
  obtain ⟨hB, hX, hH, hR, h1, h2⟩ := h.p
  have hs9 := zI_m hB.1.1
  refine (vX4_setFrost hl hr hf hR hB hX h1 h2).mono (fun v M' q => h.act q (fun e => ?_))
  have e2 := sBarF_0 e
  have hz := zB_eff hB (kd := 102) (a := lane) (b := row) (c := f) (by unfold sBarK; rw [if_neg (by decide), if_pos rfl]; exact e)
  exact ⟨hz.1, zX_fz hX hs9.1 (by omega), zH_fz hB.1.1 hH (by omega), by rw [sFz_o (by omega)]; exact h.1.2.2.2.2⟩
theorem a_set {w x : Int} (hw : -2147483648 ≤ w ∧ w < 2147483648) (hx : -2147483648 ≤ x ∧ x < 2147483648) (h : zO b M A) : zCall G yX4_set YX4_set [.inr (some 175), .inl w, .inl x] M (fun v M' => v = some (.inl (aOp A (sBarSet A.1 w x) (if sBarSet A.1 w x = 0 then A.1 (531 + w) else 0) (sDry (zu A.1 (531 + w) x))).1) ∧ zO b M' (aOp A (sBarSet A.1 w x) (if sBarSet A.1 w x = 0 then A.1 (531 + w) else 0) (sDry (zu A.1 (531 + w) x))).2) := by
  obtain ⟨hB, hX, hH, hR, h1, h2⟩ := h.p
  have hs9 := zI_m hB.1.1
  refine (vX4_set hw hx hR hB hX h1 h2).mono (fun v M' q => h.act q (fun e => ?_))
  have e2 : (0 ≤ w ∧ w ≤ 3) ∧ ((if w = 0 then 0 else 1) ≤ x ∧ x ≤ sMost w) := by
    unfold sBarSet at e
    by_cases q : 0 ≤ w ∧ w ≤ 3
    · rw [if_neg (fun k => k q)] at e
      by_cases q2 : (if w = 0 then 0 else 1) ≤ x ∧ x ≤ sMost w
      · exact ⟨q, q2⟩
      · rw [if_pos q2] at e; exact absurd e (by decide)
    · rw [if_pos q] at e; exact absurd e (by decide)
  have hI2 := zI_set hB.1.1 e2.1 e2.2
  have hZ2 : zZ (zu A.1 (531 + w) x) := fun c q1 q2 q3 => by
    rw [zu_ne (by omega)] at q3 ⊢
    exact hB.1.2.2 c q1 q2 q3
  refine ⟨⟨zA_dry hI2 hZ2, ?_, ?_⟩, zX_set hX (by omega) (by omega) e2.1, zH_set hB.1.1 hH e2.1 e2.2, ?_⟩
  · rw [sDry_o _ (by omega), zu_ne (by omega)]; exact hB.2.1
  · rw [sDry_o _ (by omega), zu_ne (by omega)]; exact hB.2.2
  · rw [sDry_o _ (by omega), zu_ne (by omega)]; exact h.1.2.2.2.2
theorem a_pass {t : Int} (ht : -2147483648 ≤ t ∧ t < 2147483648) (h : zO b M A) : zCall G yX4_pass YX4_pass [.inr (some 175), .inl t] M (fun v M' => v = some (.inl (aOp A (sBarT A.1 t) (if sBarT A.1 t = 0 then sTs t A.1 537 - A.1 537 else 0) (sTs t A.1)).1) ∧ zO (b + (if 0 < t then t else 0)) M' (aOp A (sBarT A.1 t) (if sBarT A.1 t = 0 then sTs t A.1 537 - A.1 537 else 0) (sTs t A.1)).2) := by
  obtain ⟨hB, hX, hH, hR, h1, h2⟩ := h.p
  have hle : b ≤ b + (if 0 < t then t else 0) := by split <;> omega
  refine (vX4_pass ht hR hB hX h1 h2).mono (fun v M' q => (h.le hle).act q (fun e => ?_))
  have e2 := sBarT_0 e
  have hz := zB_eff hB (kd := 46) (a := t) (b := 0) (c := 0) (by unfold sBarK; rw [if_neg (by decide), if_neg (by decide)]; exact e)
  refine ⟨hz.1, zX_ts hB.1 hX (by omega), zH_ts hB.1 hX hH (by omega), ?_⟩
  rw [(zA_ts hB.1 (t := t) (by omega)).2.1, if_pos (by omega)]
  have := h.1.2.2.2.2
  omega
theorem zH_off' {σ : zS} (hB : zB σ) (hX : zX σ) (hH : zH σ) {k : Int} (hk : 0 ≤ k ∧ k < σ 535) (hd : σ (360 + 10 * k + 3) = 0) : zB (zu σ (360 + 10 * k + 3) 2) ∧ zX (zu σ (360 + 10 * k + 3) 2) ∧ zH (zu σ (360 + 10 * k + 3) 2) := by
  have hm := zI_m hB.1.1
  refine ⟨?_, zX_off hX (by omega) (by omega) hk hd, zH_off hB.1.1 hH hk hd⟩
  have o : ∀ j : Int, j ≠ 360 + 10 * k + 3 → zu σ (360 + 10 * k + 3) 2 j = σ j := fun j q => zu_ne q
  obtain ⟨⟨⟨i1, i2, i3⟩, hJ, hZ⟩, h8, h6⟩ := hB
  refine ⟨⟨⟨?_, fun c q1 q2 => ?_, fun a q1 q2 => ?_⟩, fun c q1 q2 => ?_, fun c q1 q2 q3 => ?_⟩, ?_, ?_⟩
  · unfold zIs at i1 ⊢
    rw [o 531 (by omega), o 532 (by omega), o 533 (by omega), o 534 (by omega), o 535 (by omega)]
    exact i1
  · have := i2 c q1 q2
    unfold zIc at this ⊢
    rw [o c (by omega), o (120 + c) (by omega), o (240 + c) (by omega)]
    exact this
  · have := i3 a q1 q2
    unfold zIk at this ⊢
    rw [o (360 + 10 * a + 0) (by omega), o (360 + 10 * a + 1) (by omega), o (360 + 10 * a + 2) (by omega), o (360 + 10 * a + 8) (by omega), o (360 + 10 * a + 9) (by omega)]
    by_cases ha : a = k
    · subst ha
      rw [zu_at]
      omega
    · rw [o (360 + 10 * a + 3) (by omega)]
      exact this
  · rw [o (240 + c) (by omega), o 531 (by omega)]
    exact hJ c q1 q2
  · rw [o (120 + c) (by omega)] at q3
    rw [o (240 + c) (by omega)]
    exact hZ c q1 q2 q3
  · rw [o 535 (by omega)]; exact h8
  · rw [o 536 (by omega)]; exact h6
theorem a_takeOff {k : Int} (hk : -2147483648 ≤ k ∧ k < 2147483648) (h : zO b M A) : zCall G yX4_takeOff YX4_takeOff [.inr (some 175), .inl k] M (fun v M' => v = some (.inl (aOp A (sBarO A.1 k) (if sBarO A.1 k = 0 then A.1 (360 + 10 * k + 1) else 0) (zu A.1 (360 + 10 * k + 3) 2)).1) ∧ zO b M' (aOp A (sBarO A.1 k) (if sBarO A.1 k = 0 then A.1 (360 + 10 * k + 1) else 0) (zu A.1 (360 + 10 * k + 3) 2)).2) := by
  obtain ⟨hB, hX, hH, hR, h1, h2⟩ := h.p
  have hm := zI_m hB.1.1
  refine (vX4_takeOff hk hR hB hX h1 h2).mono (fun v M' q => h.act q (fun e => ?_))
  have e2 : (0 ≤ k ∧ k < A.1 535) ∧ A.1 (360 + 10 * k + 3) = 0 := by
    unfold sBarO at e
    by_cases q : 0 ≤ k ∧ k < A.1 535
    · rw [if_neg (fun z => z q)] at e
      by_cases q2 : A.1 (360 + 10 * k + 3) = 0
      · exact ⟨q, q2⟩
      · rw [if_pos q2] at e; exact absurd e (by decide)
    · rw [if_pos q] at e; exact absurd e (by decide)
  have hz := zH_off' hB hX hH e2.1 e2.2
  exact ⟨hz.1, hz.2.1, hz.2.2, by rw [zu_ne (by omega)]; exact h.1.2.2.2.2⟩
end ZT
