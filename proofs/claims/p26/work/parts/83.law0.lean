/-! ===== the law's own steps ===== -/
abbrev lwX (G : zG) (g : Int → Nat) (b : Nat) (F : dFt) (Qe : State → Prop) (A : Nat → Prop) : dX := (G, g, b, (RL, code, 7, some .boolean, 8), F, (room_1, 374, 8674), Qe, A)
/-- what holds of the script -/
def lwS (b L : Nat) (xs : Nat → Int32) (F : dFt) (A : Nat → Prop) : Prop := va_X b L xs F.2.2.1 F.2.2.1.heap ∧ b < F.2.2.1.heap.size ∧ ¬ A b ∧ L < 1000000
section LR
variable {G : zG} {g : Int → Nat} {b L : Nat} {xs : Nat → Int32} {F : dFt} {Qe : State → Prop} {A : Nat → Prop} {pc : Nat} {lo : List (Nat × zV)} {st : List zV} {M N : zM}
theorem d_cell {k : Int} {index : Nat} {rest : List zV} (hs : lwS b L xs F A) (hk : 0 ≤ k ∧ k < 1000) (hst : st = .inl k :: .inr (some (-1)) :: rest) (hd : decode code pc = .ok (.invokestatic index, 3)) (hlink : Cond.methodLink RL index yL_cell ∈ zT) (hrest : rest.length ≤ 8)
    (kk : dW (lwX G g b F Qe A) (pc + 3) lo (.inl (cV L xs k).toInt :: rest) M N) : dW (lwX G g b F Qe A) pc lo st M N := by
  obtain ⟨p, e, s, m, args, below, meth, c⟩ := F
  obtain ⟨hX, hbl, hbA, hL⟩ := hs
  intro C H locs ls hP hP2 hS hl
  obtain ⟨hx, hb, hml, hts, hown, hK, hSt, hSt2, hJ, hJ2, hdis, hN, hA1, hA2⟩ := id C
  obtain ⟨⟨i1, i2, ⟨i3, i4, i5⟩, i6⟩, i7⟩ := mL_cell
  subst hst
  have hXH : va_X b L xs s H := va_X.kept hX (hS.2.1 b hbl hbA)
  have hpre : PreS s H (va_Pc [.ref b, .int (Int32.ofInt k)] (cPre b L xs)) [.ref b, .int (Int32.ofInt k)] := ⟨cPre_blind, fun U hU hW => ⟨rfl, by
    show va_X b L xs U U.heap
    rw [hU]
    exact va_X.moved hW.alike hXH⟩⟩
  have hr := va_runS (rest := zm_sk (dGD (lwX G g b (p, e, s, m, args, below, meth, c) Qe A)) rest) (As := [.ref b, .int (Int32.ofInt k)]) (nL := 7) (R := room_1) (cells := 374) (slots := 8674) (e := e) (below := below) (meth := meth) (g := F0 m pc ls (zm_sk (dGD (lwX G g b (p, e, s, m, args, below, meth, c) Qe A)) (.inl k :: .inr (some (-1)) :: rest))) (locs := locs) ⟨hx, hb, hml, hown, hts⟩ (m_cell (l := G.1) (b := b) (xs := xs) hk hL) ⟨callB_of 2 hts (zGood yL_cell YL_cell i2) rfl rfl rfl (hts _ i1) (hts _ hlink) ⟨i3, i4, i5⟩ ⟨Nat.le_of_ble_eq_true rfl, Nat.le_of_ble_eq_true rfl⟩, hts _ i7⟩ hpre rfl rfl hl.1 rfl (lv_room (by rw [zm_cats]; exact hrest)) hd ⟨Nat.le_of_ble_eq_true rfl, Nat.le_of_ble_eq_true rfl⟩
  intro T hT XX
  obtain ⟨v, st₀, t, T', Lc, h0, X', hLc, e1, e2, ⟨hv, hz, hkk⟩, stp⟩ := hr T hT XX
  cases hv
  rw [h0] at hz hkk
  have hh : ∀ q : Nat, q < H.size → T'.heap[q]? = H[q]? := fun q h1 => by rw [e1]; exact hkk q h1 (fun z => z)
  obtain ⟨t2, a1, b1⟩ := kk C T'.heap (locs ++ Lc) ls (zm_GP_kept hJ hP (fun q h1 _ => hh q h1)) (zm_GP_kept hJ2 hP2 (fun q h1 _ => hh q h1))
    ⟨Nat.le_trans hS.1 (by rw [e1]; exact hz), fun q h1 h2 => by rw [hh q (Nat.lt_of_lt_of_le h1 hS.1)]; exact hS.2.1 q h1 h2, fun q hq => by
      rcases List.mem_append.mp hq with h | h
      · exact hS.2.2 q h
      · exact absurd (hLc q h) (fun z => z)⟩ hl T' rfl (by
      have e3 : zm_sk (dGD (lwX G g b (p, e, s, m, args, below, meth, c) Qe A)) (.inl (cV L xs k).toInt :: rest) = .int (cV L xs k) :: zm_sk (dGD (lwX G g b (p, e, s, m, args, below, meth, c) Qe A)) rest := by
        show Value.int (Int32.ofInt (cV L xs k).toInt) :: zm_sk _ rest = _
        rw [Int32.ofInt_toInt]
      exact X')
  refine ⟨t2, stp t2 ?_, b1⟩
  have e3 : zm_sk (dGD (lwX G g b (p, e, s, m, args, below, meth, c) Qe A)) (.inl (cV L xs k).toInt :: rest) = .int (cV L xs k) :: zm_sk (dGD (lwX G g b (p, e, s, m, args, below, meth, c) Qe A)) rest := by
    show Value.int (Int32.ofInt (cV L xs k).toInt) :: zm_sk _ rest = _
    rw [Int32.ofInt_toInt]
  rw [e3] at a1
  exact a1
theorem d_same {b1 b2 : Int} {T : wAb} {index : Nat} {rest : List zV} (hO : zO b1 M T) (hO2 : zO b2 N T) (hst : st = .inr (some 675) :: .inr (some 175) :: rest) (hd : decode code pc = .ok (.invokestatic index, 3)) (hlink : Cond.methodLink RL index yL_same ∈ zT) (hrest : rest.length ≤ 8)
    (kk : ∀ M' N' : zM, zO b1 M' T → zO b2 N' T → dW (lwX G g b F Qe A) (pc + 3) lo (.inl 1 :: rest) M' N') : dW (lwX G g b F Qe A) pc lo st M N := by
  obtain ⟨p, e, s, m, args, below, meth, c⟩ := F
  intro C H locs ls hP hP2 hS hl
  obtain ⟨hx, hb, hml, hts, hown, hK, hSt, hSt2, hJ, hJ2, hdis, hN, hA1, hA2⟩ := id C
  obtain ⟨⟨i1, i2, ⟨i3, i4, i5⟩, i6⟩, i7⟩ := mL_same
  subst hst
  have hAA : ∀ q, dA2 G g q → A q := fun q h => h.elim (hA1 q) (hA2 q)
  have hpre : PreS s H (va_Pc [.ref (G.2.1 175), .ref (g 175)] (dPre2 G g M N)) [.ref (G.2.1 175), .ref (g 175)] := ⟨dPre2_blind, fun U hU hW => ⟨rfl, by
    refine ⟨by rw [hU]; exact hP, by rw [hU]; exact hP2, va_K.moved hW.alike hK, ?_, ?_, hJ, hJ2, hdis, hN.warm hW⟩
    · rw [hU]
      exact zm_St_n (zm_St.moved hW.alike (hSt.kept (fun a h1 h2 => hS.2.1 a h1 h2))) hAA
    · rw [hU]
      exact zm_St_n (zm_St.moved hW.alike (hSt2.kept (fun a h1 h2 => hS.2.1 a h1 h2))) hAA⟩⟩
  have hr := va_runS (rest := zm_sk (dGD (lwX G g b (p, e, s, m, args, below, meth, c) Qe A)) rest) (As := [.ref (G.2.1 175), .ref (g 175)]) (nL := 7) (R := room_1) (cells := 374) (slots := 8674) (e := e) (below := below) (meth := meth) (g := F0 m pc ls (zm_sk (dGD (lwX G g b (p, e, s, m, args, below, meth, c) Qe A)) (.inr (some 675) :: .inr (some 175) :: rest))) (locs := locs) ⟨hx, hb, hml, hown, hts⟩ (m_same (G := G) (g := g) hO hO2) ⟨callB_of 2 hts (zGood yL_same YL_same i2) rfl rfl rfl (hts _ i1) (hts _ hlink) ⟨i3, i4, i5⟩ ⟨Nat.le_of_ble_eq_true rfl, Nat.le_of_ble_eq_true rfl⟩, hts _ i7⟩ hpre rfl rfl hl.1 rfl (lv_room (by rw [zm_cats]; exact hrest)) hd ⟨Nat.le_of_ble_eq_true rfl, Nat.le_of_ble_eq_true rfl⟩
  intro T' hT XX
  obtain ⟨v, st₀, t, T2, Lc, h0, X', hLc, e1, e2, ⟨⟨hv, M1, N1, ⟨k1, k2⟩, g1, g2⟩, hz, hkk⟩, stp⟩ := hr T' hT XX
  cases hv
  rw [h0] at hz hkk
  obtain ⟨t2, a1, b1⟩ := kk M1 N1 k1 k2 C T2.heap (locs ++ Lc) ls (by rw [e1]; exact g1) (by rw [e1]; exact g2)
    ⟨Nat.le_trans hS.1 (by rw [e1]; exact hz), fun q h1 h2 => by rw [e1, hkk q (Nat.lt_of_lt_of_le h1 hS.1) (fun z => h2 (hAA q z))]; exact hS.2.1 q h1 h2, fun q hq => by
      rcases List.mem_append.mp hq with h | h
      · exact hS.2.2 q h
      · exact hAA _ (hLc q h)⟩ hl T2 rfl X'
  exact ⟨t2, stp t2 a1, b1⟩
end LR
section LE
variable {G : zG} {b : Int} {M : zM} {A : wAb}
theorem e_undo (h0 : A.2.1.1 = 0) (h : zO b M A) : zCall G yX4_undo YX4_undo [.inr (some 175)] M (fun v M' => v = some (.inl (-5)) ∧ M' = M) := by
  obtain ⟨h1, h2, h3, h4, h5, h6⟩ := id h
  have e := h2.2.1
  refine (vX4_undo (τ := zs0) (fun q => by omega) (by omega) h2.1).mono (fun v M' q => ?_)
  rcases q with ⟨a1, rfl, rfl⟩ | ⟨a1, _⟩
  · exact ⟨rfl, rfl⟩
  · omega
theorem e_restore (h0 : A.2.2.1.1 = 0) (h : zO b M A) : zCall G yX4_restore YX4_restore [.inr (some 175)] M (fun v M' => v = some (.inl (-5)) ∧ M' = M) := by
  obtain ⟨hB, hX, hH, hR, k1, k2⟩ := h.p
  have e := h.2.2.1.1
  refine (vX4_restore (τ := zs0) (by omega) hR hB.1.1 (fun q => by omega) k1 k2).mono (fun v M' q => ?_)
  rcases q with ⟨a1, rfl, rfl⟩ | ⟨a1, _⟩
  · exact ⟨rfl, rfl⟩
  · omega
/-- turns that pass -/
theorem e_turns {t : Int} (ht : 1 ≤ t ∧ t ≤ 99) (hb : b + t ≤ 99999) (h : zO b M A) : zCall G yX4_pass YX4_pass [.inr (some 175), .inl t] M (fun v M' => v = some (.inl (sTs t A.1 537 - A.1 537)) ∧ zO (b + t) M' (aRec A (sTs t A.1))) := by
  have hu := h.1.2.2.2.2
  have hbar : sBarT A.1 t = 0 := by
    unfold sBarT
    rw [if_neg (by omega), if_neg (by omega)]
  refine (a_pass (by omega) h).mono (fun v M' q => ?_)
  rw [hbar] at q
  unfold aOp at q
  rw [if_neg (by decide), if_pos rfl, if_pos (by omega)] at q
  exact q
end LE
theorem sTs_1 (σ : zS) : sTs 1 σ = sTurn σ := by
  unfold sTs
  rw [zfor_step (by decide), zfor_end (by decide)]
theorem sTs_0 (σ : zS) : sTs 0 σ = σ := by
  unfold sTs
  rw [zfor_end (by decide)]
theorem sTs_s (σ : zS) {t : Int} (ht : 0 ≤ t) : sTs (t + 1) σ = sTurn (sTs t σ) := by
  unfold sTs
  rw [zfor_last t.toNat 0 σ (by omega)]
