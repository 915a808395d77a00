/-! ===== bits ===== -/
theorem n_s31 : ∀ s : Fin 32, ((Int32.ofInt (s.val : Int) &&& 31).toBitVec.smod 32).toNat = s.val := by decide +kernel
theorem n_shr {x : Int} (hx : 0 ≤ x ∧ x < 2147483648) {s : Nat} (hs : s < 32) : (Int32.ofInt x) >>> (Int32.ofInt (s : Int) &&& 31) = Int32.ofInt (x / 2 ^ s) := by
  have h2 : (0 : Int) < 2 ^ s := Int.pow_pos (by decide)
  have h3 : x / 2 ^ s ≤ x := Int.ediv_le_self _ hx.1
  have h4 : 0 ≤ x / 2 ^ s := Int.ediv_nonneg hx.1 (by omega)
  rw [← Int32.toInt_inj, Int32.toInt_ofInt_of_le (by omega) (by omega)]
  show ((Int32.ofInt x).toBitVec.sshiftRight ((Int32.ofInt (s : Int) &&& 31).toBitVec.smod 32).toNat).toInt = _
  rw [n_s31 ⟨s, hs⟩, BitVec.toInt_sshiftRight]
  show (Int32.ofInt x).toInt >>> s = _
  rw [Int32.toInt_ofInt_of_le (by omega) (by omega), Int.shiftRight_eq_div_pow]
  simp
theorem n_shl : ∀ r : Fin 21, (Int32.ofInt 1) <<< (Int32.ofInt (r.val : Int) &&& 31) = Int32.ofInt ((2 ^ r.val : Nat) : Int) := by decide +kernel
theorem n_toN {a : Nat} (ha : a < 1048576) : (Int32.ofInt (a : Int)).toBitVec.toNat = a := by
  show (BitVec.ofInt 32 (a : Int)).toNat = a
  rw [BitVec.toNat_ofInt]
  omega
theorem n_or {a b : Nat} (ha : a < 1048576) (hb : b < 1048576) : Int32.ofInt (a : Int) ||| Int32.ofInt (b : Int) = Int32.ofInt ((a ||| b : Nat) : Int) := by
  have hab : a ||| b < 1048576 := Nat.or_lt_two_pow (n := 20) ha hb
  rw [← Int32.toBitVec_inj, Int32.toBitVec_or]
  apply BitVec.eq_of_toNat_eq
  rw [BitVec.toNat_or, n_toN ha, n_toN hb, n_toN hab]
theorem n_i2c : ∀ r : Fin 128, (((Int32.ofInt (r.val : Int)).toUInt32 % 65536).toInt32) = Int32.ofInt (r.val : Int) := by decide +kernel
section ZR
variable {G : zG} {Y : zY} {Q : Option zV → zM → Prop} {pc : Nat} {lo : List (Nat × zV)} {st : List zV} {M : zM}
theorem z_ishr {x s : Int} (hd : decode Y.2.1 pc = .ok (.ishr, 1)) (hx0 : 0 ≤ x ∧ x < 2147483648) (hs : 0 ≤ s ∧ s < 32)
    (k : zW G Y Q (pc + 1) lo (.inl (x / 2 ^ s.toNat) :: st) M) : zW G Y Q pc lo (.inl s :: .inl x :: st) M := by
  intro p e s' m args below meth c C H locs ls hP hS hl
  obtain ⟨hx, hb, hml, hr, hts, hown, hlk, hK, hSt, hJ, hN⟩ := id C
  have := k p e s' m args below meth c C H locs ls hP hS hl
  refine lv_ishr hx hb hd ?_
  have e1 := n_shr hx0 (s := s.toNat) (by omega)
  rw [show ((s.toNat : Nat) : Int) = s by omega] at e1
  rw [e1]
  exact this
theorem z_ishl {r : Int} (hd : decode Y.2.1 pc = .ok (.ishl, 1)) (hs : 0 ≤ r ∧ r ≤ 20)
    (k : zW G Y Q (pc + 1) lo (.inl ((2 ^ r.toNat : Nat) : Int) :: st) M) : zW G Y Q pc lo (.inl r :: .inl 1 :: st) M := by
  intro p e s' m args below meth c C H locs ls hP hS hl
  obtain ⟨hx, hb, hml, hr, hts, hown, hlk, hK, hSt, hJ, hN⟩ := id C
  have := k p e s' m args below meth c C H locs ls hP hS hl
  refine lv_ishl hx hb hd ?_
  have e1 := n_shl ⟨r.toNat, by omega⟩
  dsimp only at e1
  rw [show ((r.toNat : Nat) : Int) = r by omega] at e1
  rw [e1]
  exact this
theorem z_ior {a b' : Nat} (hd : decode Y.2.1 pc = .ok (.ior, 1)) (ha : a < 1048576) (hb0 : b' < 1048576)
    (k : zW G Y Q (pc + 1) lo (.inl ((a ||| b' : Nat) : Int) :: st) M) : zW G Y Q pc lo (.inl (b' : Int) :: .inl (a : Int) :: st) M := by
  intro p e s' m args below meth c C H locs ls hP hS hl
  obtain ⟨hx, hb, hml, hr, hts, hown, hlk, hK, hSt, hJ, hN⟩ := id C
  have := k p e s' m args below meth c C H locs ls hP hS hl
  refine lv_ior hx hb hd ?_
  rw [n_or ha hb0]
  exact this
theorem z_i2c {x : Int} (hd : decode Y.2.1 pc = .ok (.i2c, 1)) (hx0 : 0 ≤ x ∧ x < 128)
    (k : zW G Y Q (pc + 1) lo (.inl x :: st) M) : zW G Y Q pc lo (.inl x :: st) M := by
  intro p e s' m args below meth c C H locs ls hP hS hl
  obtain ⟨hx, hb, hml, hr, hts, hown, hlk, hK, hSt, hJ, hN⟩ := id C
  have e1 := n_i2c ⟨x.toNat, by omega⟩
  dsimp only at e1
  rw [show ((x.toNat : Nat) : Int) = x by omega] at e1
  exact lv_i2c hx hb hd e1 (k p e s' m args below meth c C H locs ls hP hS hl)
end ZR
/-! ===== what is told, in its simplest form ===== -/
theorem zsum_nn (g : Int → Int) (m : Int) (ho : ∀ a : Int, 0 ≤ a → a < m → 0 ≤ g a) : ∀ (n : Nat) (i a : Int), 0 ≤ i → i + n = m → a ≤ zfor (zsumF g) i m a
  | 0, i, a, h0, h => by rw [zfor_end (by omega)]; omega
  | n + 1, i, a, h0, h => by
    rw [zfor_step (by omega)]
    have := zsum_nn g m ho n (i + 1) (zsumF g i a) (by omega) (by omega)
    have h2 := ho i h0 (by omega)
    have h3 : zsumF g i a = a + g i := rfl
    omega
theorem zsum_one (g : Int → Int) {m : Int} (hm : 0 ≤ m) (ho : ∀ a : Int, 0 ≤ a → a < m → 0 ≤ g a) {j : Int} (hj : 0 ≤ j ∧ j < m) : g j ≤ zfor (zsumF g) 0 m 0 := by
  have h1 := zsum_u (fun a => if a = j then 0 else g a) g m j (g j) (by rw [if_pos rfl]; omega) (fun a _ _ q => by rw [if_neg q]) m.toNat 0 0 (by omega) (by omega)
  have h2 := zsum_nn (fun a => if a = j then 0 else g a) m (fun a q1 q2 => by split; omega; exact ho a q1 q2) m.toNat 0 0 (by omega) (by omega)
  rw [if_pos hj] at h1
  omega
def cTr (σ : zS) (i : Int) : Int := if σ (120 + i) = 0 then -5 else σ (120 + i) - 1
def cAg (σ : zS) (i : Int) : Int := if σ (120 + i) = 0 then -5 else σ (240 + i)
def cRk (σ : zS) (k : Int) : Int := if σ (360 + 10 * k + 4) = 0 then -5 else σ (360 + 10 * k + 4)
def cLd (σ : zS) (k : Int) : Int := if σ (360 + 10 * k + 8) = 0 then -5 else σ (360 + 10 * k + 8) - 1
def cDo (σ : zS) (k : Int) : Int := if σ (360 + 10 * k + 3) = 0 then sCh σ k else -4
section ZT
variable {G : zG} {b : Int} {M : zM} {A : wAb}
theorem t_c0 {i : Int} (hi : 0 ≤ i ∧ i < 120) (h : zO b M A) : zCall G yX4_cell YX4_cell [.inr (some 175), .inl (i % 6), .inl (i / 6), .inl 0] M (fun v M' => v = some (.inl (A.1 i)) ∧ zO b M' A) := (t_cell (by omega) (by omega) (by omega) h).mono (fun v M' q => ⟨by
  rw [q.1]
  unfold sCell
  rw [if_neg (by omega), if_pos rfl, show 6 * (i / 6) + i % 6 = i by omega], q.2⟩)
theorem t_c1 {i : Int} (hi : 0 ≤ i ∧ i < 120) (h : zO b M A) : zCall G yX4_cell YX4_cell [.inr (some 175), .inl (i % 6), .inl (i / 6), .inl 1] M (fun v M' => v = some (.inl (cTr A.1 i)) ∧ zO b M' A) := (t_cell (by omega) (by omega) (by omega) h).mono (fun v M' q => ⟨by
  rw [q.1]
  unfold sCell cTr
  rw [if_neg (by omega), if_neg (by decide), if_pos rfl, show 6 * (i / 6) + i % 6 = i by omega], q.2⟩)
theorem t_c2 {i : Int} (hi : 0 ≤ i ∧ i < 120) (h : zO b M A) : zCall G yX4_cell YX4_cell [.inr (some 175), .inl (i % 6), .inl (i / 6), .inl 2] M (fun v M' => v = some (.inl (cAg A.1 i)) ∧ zO b M' A) := (t_cell (by omega) (by omega) (by omega) h).mono (fun v M' q => ⟨by
  rw [q.1]
  unfold sCell cAg
  rw [if_neg (by omega), if_neg (by decide), if_neg (by decide), if_pos rfl, show 6 * (i / 6) + i % 6 = i by omega], q.2⟩)
theorem t_c3 {i : Int} (hi : 0 ≤ i ∧ i < 120) (h : zO b M A) : zCall G yX4_cell YX4_cell [.inr (some 175), .inl (i % 6), .inl (i / 6), .inl 3] M (fun v M' => v = some (.inl (sOn A.1 (i % 6) (i / 6))) ∧ zO b M' A) := (t_cell (by omega) (by omega) (by omega) h).mono (fun v M' q => ⟨by
  rw [q.1]
  unfold sCell
  rw [if_neg (by omega), if_neg (by decide), if_neg (by decide), if_neg (by decide), if_pos rfl], q.2⟩)
/-- the cell above -/
theorem t_c0u {i : Int} (hi : 0 ≤ i ∧ i < 114) (h : zO b M A) : zCall G yX4_cell YX4_cell [.inr (some 175), .inl (i % 6), .inl (i / 6 + 1), .inl 0] M (fun v M' => v = some (.inl (A.1 (i + 6))) ∧ zO b M' A) := (t_cell (by omega) (by omega) (by omega) h).mono (fun v M' q => ⟨by
  rw [q.1]
  unfold sCell
  rw [if_neg (by omega), if_pos rfl, show 6 * (i / 6 + 1) + i % 6 = i + 6 by omega], q.2⟩)
theorem t_w {i w : Int} (hi : 0 ≤ i ∧ i < 120) (hw : 0 ≤ w ∧ w ≤ 1) (h : zO b M A) : zCall G yX4_wayUp YX4_wayUp [.inr (some 175), .inl (i % 6), .inl (i / 6), .inl w] M (fun v M' => v = some (.inl (zU A.1 i)) ∧ zO b M' A) := (t_wayUp (by omega) (by omega) (by omega) h).mono (fun v M' q => ⟨by
  rw [q.1]
  unfold sWay zU
  rw [if_neg (by omega), if_neg (by omega)], q.2⟩)
theorem t_wu {i w : Int} (hi : 0 ≤ i ∧ i < 114) (hw : 0 ≤ w ∧ w ≤ 1) (h : zO b M A) : zCall G yX4_wayUp YX4_wayUp [.inr (some 175), .inl (i % 6), .inl (i / 6 + 1), .inl w] M (fun v M' => v = some (.inl (zU A.1 (i + 6))) ∧ zO b M' A) := (t_wayUp (by omega) (by omega) (by omega) h).mono (fun v M' q => ⟨by
  rw [q.1]
  unfold sWay zU
  rw [if_neg (by omega), if_neg (by omega), show (i + 6) / 6 = i / 6 + 1 by omega, show (i + 6) % 6 = i % 6 by omega], q.2⟩)
theorem t_sn {k w : Int} (hk : 0 ≤ k ∧ k < A.1 535) (hw : (0 ≤ w ∧ w ≤ 9) ∧ w ≠ 4 ∧ w ≠ 8) (h : zO b M A) : zCall G yX4_snail YX4_snail [.inr (some 175), .inl k, .inl w] M (fun v M' => v = some (.inl (A.1 (360 + 10 * k + w))) ∧ zO b M' A) := by
  have h8 := h.p.1.2.1
  exact (t_snail (by omega) (by omega) h).mono (fun v M' q => ⟨by
    rw [q.1]
    unfold sSnail
    rw [if_neg (by omega), if_neg (by omega), if_neg hw.2.1, if_neg hw.2.2], q.2⟩)
theorem t_rk {k : Int} (hk : 0 ≤ k ∧ k < A.1 535) (h : zO b M A) : zCall G yX4_snail YX4_snail [.inr (some 175), .inl k, .inl 4] M (fun v M' => v = some (.inl (cRk A.1 k)) ∧ zO b M' A) := by
  have h8 := h.p.1.2.1
  exact (t_snail (by omega) (by omega) h).mono (fun v M' q => ⟨by
    rw [q.1]
    unfold sSnail cRk
    rw [if_neg (by omega), if_neg (by omega), if_pos rfl], q.2⟩)
theorem t_ld {k : Int} (hk : 0 ≤ k ∧ k < A.1 535) (h : zO b M A) : zCall G yX4_snail YX4_snail [.inr (some 175), .inl k, .inl 8] M (fun v M' => v = some (.inl (cLd A.1 k)) ∧ zO b M' A) := by
  have h8 := h.p.1.2.1
  exact (t_snail (by omega) (by omega) h).mono (fun v M' q => ⟨by
    rw [q.1]
    unfold sSnail cLd
    rw [if_neg (by omega), if_neg (by omega), if_neg (by decide), if_pos rfl], q.2⟩)
theorem t_do {k : Int} (hk : 0 ≤ k ∧ k < A.1 535) (h : zO b M A) : zCall G yX4_does YX4_does [.inr (some 175), .inl k] M (fun v M' => v = some (.inl (cDo A.1 k)) ∧ zO b M' A) := by
  have h8 := h.p.1.2.1
  exact (t_does (by omega) h).mono (fun v M' q => ⟨by
    rw [q.1]
    unfold sDoes cDo
    rw [if_neg (by omega)], q.2⟩)
theorem t_co {k s : Int} (hk : 0 ≤ k ∧ k < A.1 535) (hs : 0 ≤ s ∧ s ≤ 2) (hd : A.1 (360 + 10 * k + 3) = 0) (h : zO b M A) : zCall G yX4_cost YX4_cost [.inr (some 175), .inl k, .inl s] M (fun v M' => v = some (.inl (sPr A.1 k s)) ∧ zO b M' A) := by
  have h8 := h.p.1.2.1
  exact (t_cost (by omega) (by omega) h).mono (fun v M' q => ⟨by
    rw [q.1]
    unfold sCost
    rw [if_neg (by omega), if_neg (by omega), if_pos hd], q.2⟩)
theorem t_ow {k j : Int} (hk : 0 ≤ k ∧ k < A.1 535) (hj : 0 ≤ j ∧ j < A.1 535) (hkj : j ≠ k) (h : zO b M A) : zCall G yX4_owes YX4_owes [.inr (some 175), .inl k, .inl j] M (fun v M' => v = some (.inl (A.1 (450 + 9 * k + j))) ∧ zO b M' A) := by
  have h8 := h.p.1.2.1
  exact (t_owes (by omega) (by omega) h).mono (fun v M' q => ⟨by
    rw [q.1]
    unfold sOwes
    rw [if_neg (by omega), if_neg (Ne.symm hkj)], q.2⟩)
theorem t_owk {k : Int} (hk : 0 ≤ k ∧ k < A.1 535) (h : zO b M A) : zCall G yX4_owes YX4_owes [.inr (some 175), .inl k, .inl k] M (fun v M' => v = some (.inl (-2)) ∧ zO b M' A) := by
  have h8 := h.p.1.2.1
  exact (t_owes (by omega) (by omega) h).mono (fun v M' q => ⟨by
    rw [q.1]
    unfold sOwes
    rw [if_neg (by omega), if_pos rfl], q.2⟩)
end ZT
/-! ===== of one cell, of one snail, all that hangs() asks ===== -/
theorem hc_all {b : Int} {σ : zS} (h : zHK b σ) {i : Int} (hi : 0 ≤ i ∧ i < 120) : (0 ≤ σ i ∧ σ i ≤ 9) ∧ ((cTr σ i = -5 ∧ cAg σ i = -5 ∧ σ (120 + i) = 0) ∨ ((0 ≤ cTr σ i ∧ cTr σ i < σ 535) ∧ (0 ≤ cAg σ i ∧ cAg σ i ≤ σ 531) ∧ 0 < σ (120 + i) ∧ i < 114)) ∧ (sOn σ (i % 6) (i / 6) = -5 ∨ ((0 ≤ sOn σ (i % 6) (i / 6) ∧ sOn σ (i % 6) (i / 6) < σ 535) ∧ σ (360 + 10 * sOn σ (i % 6) (i / 6) + 3) = 0 ∧ σ (360 + 10 * sOn σ (i % 6) (i / 6) + 0) = i % 6 ∧ σ (360 + 10 * sOn σ (i % 6) (i / 6) + 1) = i / 6 ∧ i < 114)) ∧ (0 ≤ σ 535 ∧ σ 535 ≤ 8) ∧ (0 ≤ σ 531 ∧ σ 531 ≤ 99) := by
  obtain ⟨hB, hX, hH, -⟩ := h
  have hm := zI_m hB.1.1
  have hs := hB.1.1.1
  unfold zIs at hs
  have h8 := hB.2.1
  have hc := hB.1.1.2.1 i hi.1 hi.2
  unfold zIc at hc
  have hJ := hB.1.2.1 i hi.1 hi.2
  have hx := hX.1 i hi.1 hi.2
  have hr := hH.2.2.2 i
  refine ⟨by omega, ?_, ?_, by omega, by omega⟩
  · unfold cTr cAg
    by_cases e : σ (120 + i) = 0
    · rw [if_pos e, if_pos e]
      exact Or.inl ⟨rfl, rfl, e⟩
    · rw [if_neg e, if_neg e]
      refine Or.inr ⟨by omega, by omega, by omega, ?_⟩
      exact Decidable.byContradiction (fun q => e (hr (by omega) hi.2))
  · by_cases e : sOn σ (i % 6) (i / 6) = -5
    · exact Or.inl e
    · have hy := sOn_yes hm.1 e
      have hk := hH.1 _ hy.1.1 hy.1.2
      have hk9 := hB.1.1.2.2 _ hy.1.1 (by omega)
      unfold zIk at hk9
      refine Or.inr ⟨hy.1, hy.2.1, hy.2.2.1, hy.2.2.2, ?_⟩
      have := hk.2.1
      omega
theorem hw_all {b : Int} {σ : zS} (h : zHK b σ) {i : Int} (hi : 0 ≤ i ∧ i < 120) : (0 ≤ zU σ i ∧ zU σ i ≤ 190) ∧ (114 ≤ i → zU σ i = 0) ∧ (i < 114 → 19 - i / 6 ≤ zU σ i ∧ (0 ≤ zU σ (i + 6) ∧ zU σ (i + 6) ≤ 190) ∧ (0 ≤ σ (i + 6) ∧ σ (i + 6) ≤ 9) ∧ zU σ i ≤ zU σ (i + 6) + 1 + σ (i + 6)) := by
  have hI := h.1.1.1
  refine ⟨zU_r hI hi, fun q => zU_19 σ ⟨q, hi.2⟩, fun q => ?_⟩
  have h1 := sWayN_r hI (19 - i / 6).toNat (i % 6) (by omega) (by omega) (by omega)
  have h2 := zU_r hI (c := i + 6) (by omega)
  have hc := hI.2.1 (i + 6) (by omega) (by omega)
  unfold zIc at hc
  have e : sLn (i % 6) 0 = i % 6 := by unfold sLn; rw [if_pos rfl]
  have h3 := zU_le hI (c := i) (s := 0) ⟨hi.1, q⟩ (by decide) (by unfold zIn; rw [e]; omega)
  have e2 : zAb i 0 = i + 6 := by unfold zAb; rw [e]; omega
  rw [e2] at h3
  refine ⟨?_, h2, by omega, h3⟩
  unfold zU
  omega
theorem hk_all {b : Int} {σ : zS} (h : zHK b σ) {k : Int} (hk : 0 ≤ k ∧ k < σ 535) : (0 ≤ σ (360 + 10 * k + 1) ∧ σ (360 + 10 * k + 1) ≤ 19) ∧ (0 ≤ σ (360 + 10 * k + 2) ∧ σ (360 + 10 * k + 2) ≤ 99) ∧ (0 ≤ σ (360 + 10 * k + 3) ∧ σ (360 + 10 * k + 3) ≤ 2) ∧ ((σ (360 + 10 * k + 3) = 1 ∧ (1 ≤ σ (360 + 10 * k + 4) ∧ σ (360 + 10 * k + 4) ≤ 8) ∧ cRk σ k = σ (360 + 10 * k + 4) ∧ σ (360 + 10 * k + 1) = 19) ∨ (σ (360 + 10 * k + 3) ≠ 1 ∧ σ (360 + 10 * k + 4) = 0 ∧ cRk σ k = -5 ∧ σ (360 + 10 * k + 1) ≤ 18)) ∧ σ (360 + 10 * k + 5) = σ (360 + 10 * k + 1) ∧ (0 ≤ σ (360 + 10 * k + 6) ∧ σ (360 + 10 * k + 6) ≤ σ (360 + 10 * k + 5)) ∧ sOw σ k = σ (360 + 10 * k + 6) ∧ ((cLd σ k = -5 ∧ σ (360 + 10 * k + 9) = 0) ∨ ((0 ≤ cLd σ k ∧ cLd σ k < σ 535 ∧ cLd σ k ≠ k) ∧ (1 ≤ σ (360 + 10 * k + 9) ∧ σ (360 + 10 * k + 9) ≤ 9) ∧ σ (360 + 10 * k + 9) ≤ σ (450 + 9 * k + cLd σ k) ∧ σ (450 + 9 * k + cLd σ k) ≤ 19)) ∧ (0 ≤ σ 535 ∧ σ 535 ≤ 8) := by
  obtain ⟨hB, hX, hH, -⟩ := h
  have hm := zI_m hB.1.1
  have h8 := hB.2.1
  have hk9 := hB.1.1.2.2 k hk.1 (by omega)
  unfold zIk at hk9
  obtain ⟨g1, g2, g3, g4, g6, g7, g9, g10⟩ := hH.1 k hk.1 hk.2
  have hx4 := hX.2.2.2 k hk.1 hk.2
  have hx2 := hX.2.1 k hk.1 hk.2
  have hxr := hX.r hm.1
  have hr := hH.2.2.1.2 k hk.1 hk.2
  refine ⟨by omega, by omega, by omega, ?_, g3, by omega, g10, ?_, by omega⟩
  · unfold cRk
    by_cases e : σ (360 + 10 * k + 4) = 0
    · rw [if_pos e]
      right
      omega
    · rw [if_neg e]
      left
      omega
  · unfold cLd
    rcases g7 with ⟨e, e2⟩ | ⟨e, e2, e3, e4, e5⟩
    · rw [if_pos e]
      exact Or.inl ⟨rfl, e2⟩
    · rw [if_neg (by omega)]
      refine Or.inr ⟨by omega, by omega, e5, ?_⟩
      have h1 := zsum_one (sOwG σ k) hm.1 (fun a q1 q2 => by
        unfold sOwG
        split
        · omega
        · exact g9 a q1 (by omega)) (j := σ (360 + 10 * k + 8) - 1) (by omega)
      have h2 : zfor (zsumF (sOwG σ k)) 0 (σ 535) 0 = σ (360 + 10 * k + 6) := g10
      rw [h2] at h1
      unfold sOwG at h1
      rw [if_neg e2] at h1
      omega
