/-! ===== Arrays.fill over an array that stands alone ===== -/
section NL
variable {G : zG} {A : Nat → Prop} {y : MethodName} {Y : zY} {mc ms : Nat} {Q : va_W → Prop} {pc : Nat} {lo : List (Nat × Value)} {st : List Value} {ws : va_W} {k n : Nat}
theorem n_alen {q0 a N : Nat} {f : Nat → Int32} (hd : decode Y.2.1 pc = .ok (.arraylength, 1)) (he : ws[q0]? = some (a, .inl (G.2.2.1 0, N, .inl f))) (kk : nW G A y Y mc ms Q (pc + 1) lo (.int (Int32.ofNat N) :: st) ws k n) : nW G A y Y mc ms Q pc lo (.ref a :: st) ws k n := by
  intro p e s m args below meth c C H locs ls hP hD hS hl
  obtain ⟨hx, hb, hml, hr, hts, hown, hlk, hK, hF, hN0, hWo, hnm, hA⟩ := id C
  exact va_alen hx hb hK hP q0 0 he (show (zm_tys G)[0]? = some (G.2.2.1 0, .int) from rfl) rfl hd (kk p e s m args below meth c C H locs ls hP hD hS hl)
theorem n_arrV {cA : ClassId} {N : Nat} {f g : Nat → Int32} (h : ∀ j : Nat, j < N → f j = g j) : vp_cell cA (N, .inl f) = vp_cell cA (N, .inl g) := by
  rw [vp_cell_i, vp_cell_i]
  unfold arrV
  congr 1
  refine congrArg Array.ofFn ?_
  funext j
  exact congrArg Value.int (h j.val j.isLt)
/-- the same cell told in another way -/
theorem n_arr {q0 a N : Nat} {f g : Nat → Int32} {cA : ClassId} {w2 : va_W} (he : ws[q0]? = some (a, .inl (cA, N, .inl f))) (h : ∀ j : Nat, j < N → f j = g j) (hw : ws.set q0 (a, .inl (cA, N, .inl g)) = w2) (kk : nW G A y Y mc ms Q pc lo st w2 k n) : nW G A y Y mc ms Q pc lo st ws k n := by
  intro p e s m args below meth c C H locs ls hP hD hS hl
  subst hw
  refine kk p e s m args below meth c C H locs ls (fun i q hi => ?_) (hD.set he) hS hl
  by_cases hq : i = q0
  · subst hq
    rw [List.getElem?_set_self (List.getElem?_eq_some_iff.mp he).1] at hi
    cases hi
    show H[a]? = some (vp_cell cA (N, .inl g))
    rw [← n_arrV h]
    exact hP _ _ he
  · rw [List.getElem?_set_ne (Ne.symm hq)] at hi
    exact hP i q hi
end NL
theorem n_lt {i N : Nat} (hi : i < 100000) (hN : N < 100000) : Int32.ofNat N ≤ Int32.ofInt (i : Int) ↔ N ≤ i := by
  rw [show Int32.ofNat N = Int32.ofInt (N : Int) from rfl, zn_le (by omega) (by omega)]
  omega
theorem n_in {i N : Nat} (h : i < N) (hN : N < 100000) : vp_in (Int32.ofInt (i : Int)) N := zn_in (by omega) (by omega)
theorem n_nat {i : Nat} (h : i < 100000) : (Int32.ofInt (i : Int)).toNatClampNeg = i := by rw [zn_cl (by omega)]; omega
theorem n_inc (i : Nat) : Int32.ofInt (i : Int) + Int32.ofInt 1 = Int32.ofInt ((i + 1 : Nat) : Int) := by
  rw [← Int32.ofInt_add]
  rfl
def nFf (f : Nat → Int32) (v : Int32) (i : Nat) : Nat → Int32 := fun j => if j < i then v else f j
theorem nFf_next (f : Nat → Int32) (v : Int32) (i : Nat) : upd (nFf f v i) i v = nFf f v (i + 1) := by
  funext j
  unfold upd nFf
  by_cases h : j = i
  · subst h
    simp
  · by_cases h2 : j < i
    · rw [if_neg h, if_pos h2, if_pos (by omega)]
    · rw [if_neg h, if_neg h2, if_neg (by omega)]
theorem n_fill_loop {G : zG} {A : Nat → Prop} {a N : Nat} {f : Nat → Int32} {v : Int32} (hN : N < 100000) : ∀ (r i : Nat), i + r = N → nW G A yfill Yfill 0 0 (fun w => w = [(a, .inl (G.2.2.1 0, N, .inl (fun _ => v)))]) 5 [(3, .int (Int32.ofNat N)), (2, .int (Int32.ofInt (i : Int))), (0, .ref a), (1, .int v)] [] [(a, .inl (G.2.2.1 0, N, .inl (nFf f v i)))] 0 0 := by
  intro r
  induction r with
  | zero =>
    intro i hi
    refine n_iload_n 1 dfill_5 rfl ?_
    refine n_iload_n 0 dfill_6 rfl ?_
    refine n_icmp_ge (tgt := 20) dfill_7 (by decide) (fun _ => ?_) (fun q => absurd ((n_lt (by omega) hN).mpr (by omega)) q)
    refine n_arr (q0 := 0) (g := fun _ => v) rfl (fun j hj => if_pos (by omega)) rfl ?_
    exact n_vret dfill_20 rfl rfl rfl rfl
  | succ r ih =>
    intro i hi
    refine n_iload_n 1 dfill_5 rfl ?_
    refine n_iload_n 0 dfill_6 rfl ?_
    refine n_icmp_ge (tgt := 20) dfill_7 (by decide) (fun q => absurd ((n_lt (by omega) hN).mp q) (by omega)) (fun _ => ?_)
    refine n_aload_n 2 dfill_10 rfl ?_
    refine n_iload_n 1 dfill_11 rfl ?_
    refine n_iload_n 3 dfill_12 rfl ?_
    refine n_iast (q0 := 0) dfill_13 rfl (n_in (by omega) hN) rfl ?_
    rw [n_nat (by omega), nFf_next]
    refine n_iinc (j := 1) dfill_14 rfl (n_inc i) (by decide) rfl ?_
    refine n_goto (tgt := 5) dfill_17 (by decide) ?_
    exact n_sub [1, 0, 2, 3] rfl (ih (i + 1) (by omega))
theorem cFill {G : zG} {a N : Nat} {f : Nat → Int32} {v : Int32} (hN : N < 100000) : nCall G yfill Yfill [.ref a, .int v] [(a, .inl (G.2.2.1 0, N, .inl f))] 0 0 (fun w => w = [(a, .inl (G.2.2.1 0, N, .inl (fun _ => v)))]) := by
  refine nEnter (by decide) rfl (Nat.le_of_ble_eq_true rfl) (fun A => ?_)
  refine n_iconst (v := Int32.ofInt ((0 : Nat) : Int)) dfill_0 rfl ?_
  refine n_istore_n dfill_1 (by decide) rfl ?_
  refine n_aload_n 1 dfill_2 rfl ?_
  refine n_alen (q0 := 0) dfill_3 rfl ?_
  refine n_istore_n dfill_4 (by decide) rfl ?_
  refine n_arr (q0 := 0) (g := nFf f v 0) rfl (fun j _ => (if_neg (Nat.not_lt_zero j)).symm) rfl ?_
  exact n_fill_loop hN N 0 (by omega)

