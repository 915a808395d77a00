def lA (s : State) : Nat → Prop := fun q => s.heap.size ≤ q
/-! ===== what the statement gives of the start ===== -/
theorem s_zN {args : Array Value} {s : State} (hts : ∀ w ∈ lw_tbl, w.before args s = true) : zNs s := by
  intro w hw
  obtain ⟨h1, h2⟩ := List.mem_filter.mp hw
  have h3 := hts w h1
  cases w <;> first | (simp [zm_isN] at h2; done) | exact va_Nw.of rfl h3
/-- the classes and the array classes -/
theorem s_cls {args : Array Value} {s : State} (hts : ∀ w ∈ lw_tbl, w.before args s = true) (l : Launch) (g0 : Int → Nat) : ∃ G : zG, G.1 = l ∧ G.2.1 = g0 ∧ va_K G.2.2.2 zm_cls (zm_tys G) s ∧ nWo G s := by
  have hu : ∀ k : Nat, ∃ (cC : ClassId) (iS : Nat → Nat), ∀ q : vw_C, zm_cls[k]? = some q → u_Kn s q.1 q.2.1 q.2.2 cC iS := by
    intro k
    match k with
    | 0 =>
      obtain ⟨cC, iS, h⟩ := u_known (C := RX0) (T := TX0) (N := 3) (n := 3) hts zm_in0 (hts _ (List.mem_filter.mp nIns_0).1)
      exact ⟨cC, iS, fun q hq => by cases hq; exact h⟩
    | 1 =>
      obtain ⟨cC, iS, h⟩ := u_known (C := RX1) (T := TX1) (N := 17) (n := 17) hts zm_in1 (hts _ (List.mem_filter.mp nIns_1).1)
      exact ⟨cC, iS, fun q hq => by cases hq; exact h⟩
    | 2 =>
      obtain ⟨cC, iS, h⟩ := u_known (C := RX2) (T := TX2) (N := 8) (n := 8) hts zm_in2 (hts _ (List.mem_filter.mp nIns_2).1)
      exact ⟨cC, iS, fun q hq => by cases hq; exact h⟩
    | 3 =>
      obtain ⟨cC, iS, h⟩ := u_known (C := RX3) (T := TX3) (N := 2) (n := 2) hts zm_in3 (hts _ (List.mem_filter.mp nIns_3).1)
      exact ⟨cC, iS, fun q hq => by cases hq; exact h⟩
    | 4 =>
      obtain ⟨cC, iS, h⟩ := u_known (C := RX4) (T := TX4) (N := 9) (n := 9) hts zm_in4 (hts _ (List.mem_filter.mp nIns_4).1)
      exact ⟨cC, iS, fun q hq => by cases hq; exact h⟩
    | k + 5 => exact ⟨0, fun _ => 0, fun q hq => by simp [zm_cls] at hq⟩
  obtain ⟨ci, ki, cci, a1, a2, a3⟩ := Cond.arrayClass_spec (hts (.arrayClass .int) (List.mem_filter.mp nArr_int).1)
  obtain ⟨cc, kc, ccc, b1, b2, b3⟩ := Cond.arrayClass_spec (hts (.arrayClass .char) (List.mem_filter.mp nArr_char).1)
  have hOi : (Cond.arrayOver (.array .int)).before args s = true := hts _ (by decide +kernel)
  have hOp : (Cond.arrayOver (.object RX1)).before args s = true := hts _ (by decide +kernel)
  have hCa : (Cond.castable "[I" "java/lang/Cloneable").before args s = true := hts _ (by decide +kernel)
  obtain ⟨ci2, c2, k2, d1, -, d3, d4, d5⟩ := arrayOverA_spec hOi
  have e1 : ci2 = ci := Option.some.inj (d1.symm.trans a1)
  subst e1
  obtain ⟨cp, c3, k3, f1, -, f3, f4, f5⟩ := Cond.arrayOver_spec hOp
  refine ⟨(l, g0, (fun t => match t with | 0 => ci2 | 1 => cc | 2 => c2 | _ => c3), (fun k => (hu k).choose, fun k => (hu k).choose_spec.choose)), rfl, rfl, ⟨fun k q hq => (hu k).choose_spec.choose_spec q hq, fun k q hq => ?_⟩, va_AO.of hOp, va_Nw.of rfl hCa, k2, d3, d4⟩
  match k, hq with
  | 0, hq =>
    cases hq
    exact ⟨fun n z => ⟨fun k h => (by cases h), ki, a2, cci, a3⟩, a1⟩
  | 1, hq =>
    cases hq
    exact ⟨fun n z => ⟨fun k h => (by cases h), kc, b2, ccc, b3⟩, b1⟩
  | 2, hq =>
    cases hq
    exact ⟨fun n z => ⟨fun k h => (by cases h), k2, d3, ci2, d4⟩, d5⟩
  | 3, hq =>
    cases hq
    exact ⟨fun n z => ⟨fun k h => (by cases h), k3, f3, cp, f4⟩, k3, cp, f3, f4, f1, f5⟩
  | k + 4, hq => simp [zm_tys] at hq
/-- the static arrays -/
theorem s_st {s : State} {b : Addr} (hts : ∀ w ∈ lw_tbl, w.before #[Value.ref b] s = true) (hgv : (Jvm.Cond.and given_1 narrow_1).before #[Value.ref b] s = true) : ∃ g0 : Int → Nat, (∀ k : Nat, k < 3 → va_Z RX4 (zm_st k).1 "[I" (.ref (g0 (1000 + (k : Int)))) (lA s) s s.heap ∧ va_T .int (g0 (1000 + (k : Int))) (zm_st k).2.length (fun j => .int (Int32.ofInt ((zm_st k).2.getD j 0))) (lA s) s s.heap) ∧ va_Z RX4 "FIRST_SETTINGS" "[I" (.ref (g0 1003)) (lA s) s s.heap ∧ ¬ lA s (g0 1003) ∧ ∃ cell : Cell, s.heap[g0 1003]? = some cell ∧ (∀ k, cell.vm ≠ .statics k) ∧ cell.vm ≠ .unknown ∧ s.vm.findClass "[I" = some cell.cls ∧ cell.slots = (vp_cell cell.cls (4, .inl nFst)).slots := by
  have hs := flat_of_before _ hgv
  have hA : ∀ a : Nat, a < s.heap.size → ¬ lA s a := fun a h => Nat.not_le.mpr h
  have hini : (Cond.initialized RX4).before #[Value.ref b] s = true := hts _ (List.mem_filter.mp nIni_4).1
  have k0 : ∃ t : Nat, va_Z RX4 (zm_st 0).1 "[I" (.ref t) (lA s) s s.heap ∧ va_T .int t (zm_st 0).2.length (fun j => .int (Int32.ofInt ((zm_st 0).2.getD j 0))) (lA s) s s.heap := by
    obtain ⟨t, h1, h2⟩ := va_Tof (args := #[Value.ref b]) (s := s) (tm := .static RX4 "SIDES" "[I") (ty := .int) (N := 3) (f := fun j => .int (Int32.ofInt ((zm_st 0).2.getD j 0))) (by decide) (hs _ (by decide +kernel)) (va_eqt (z := 3) (hs _ (by decide +kernel))) (fun j hj => by
      rcases (show j = 0 ∨ j = 1 ∨ j = 2 by omega) with rfl | rfl | rfl
      · exact va_eqt (z := 0) (hs _ (by decide +kernel))
      · exact va_eqt (z := -1) (hs _ (by decide +kernel))
      · exact va_eqt (z := 1) (hs _ (by decide +kernel))) hA
    exact ⟨t, va_Zof (hts _ (by decide +kernel)) hini h1 hA, h2⟩
  have k1 : ∃ t : Nat, va_Z RX4 (zm_st 1).1 "[I" (.ref t) (lA s) s s.heap ∧ va_T .int t (zm_st 1).2.length (fun j => .int (Int32.ofInt ((zm_st 1).2.getD j 0))) (lA s) s s.heap := by
    obtain ⟨t, h1, h2⟩ := va_Tof (args := #[Value.ref b]) (s := s) (tm := .static RX4 "LEAST_SETTINGS" "[I") (ty := .int) (N := 4) (f := fun j => .int (Int32.ofInt ((zm_st 1).2.getD j 0))) (by decide) (hs _ (by decide +kernel)) (va_eqt (z := 4) (hs _ (by decide +kernel))) (fun j hj => by
      rcases (show j = 0 ∨ j = 1 ∨ j = 2 ∨ j = 3 by omega) with rfl | rfl | rfl | rfl
      · exact va_eqt (z := 0) (hs _ (by decide +kernel))
      · exact va_eqt (z := 1) (hs _ (by decide +kernel))
      · exact va_eqt (z := 1) (hs _ (by decide +kernel))
      · exact va_eqt (z := 1) (hs _ (by decide +kernel))) hA
    exact ⟨t, va_Zof (hts _ (by decide +kernel)) hini h1 hA, h2⟩
  have k2 : ∃ t : Nat, va_Z RX4 (zm_st 2).1 "[I" (.ref t) (lA s) s s.heap ∧ va_T .int t (zm_st 2).2.length (fun j => .int (Int32.ofInt ((zm_st 2).2.getD j 0))) (lA s) s s.heap := by
    obtain ⟨t, h1, h2⟩ := va_Tof (args := #[Value.ref b]) (s := s) (tm := .static RX4 "MOST_SETTINGS" "[I") (ty := .int) (N := 4) (f := fun j => .int (Int32.ofInt ((zm_st 2).2.getD j 0))) (by decide) (hs _ (by decide +kernel)) (va_eqt (z := 4) (hs _ (by decide +kernel))) (fun j hj => by
      rcases (show j = 0 ∨ j = 1 ∨ j = 2 ∨ j = 3 by omega) with rfl | rfl | rfl | rfl
      · exact va_eqt (z := 99) (hs _ (by decide +kernel))
      · exact va_eqt (z := 9) (hs _ (by decide +kernel))
      · exact va_eqt (z := 20) (hs _ (by decide +kernel))
      · exact va_eqt (z := 50) (hs _ (by decide +kernel))) hA
    exact ⟨t, va_Zof (hts _ (by decide +kernel)) hini h1 hA, h2⟩
  have k3 : ∃ t : Nat, va_Z RX4 "FIRST_SETTINGS" "[I" (.ref t) (lA s) s s.heap ∧ ¬ lA s t ∧ ∃ cell : Cell, s.heap[t]? = some cell ∧ (∀ k, cell.vm ≠ .statics k) ∧ cell.vm ≠ .unknown ∧ s.vm.findClass "[I" = some cell.cls ∧ cell.slots = (vp_cell cell.cls (4, .inl nFst)).slots := by
    have hlen : (Term.length (.static RX4 "FIRST_SETTINGS" "[I")).eval #[Value.ref b] s none [] s = some (.int 4) := va_eqt (z := 4) (hs _ (by decide +kernel))
    have hex : (Cond.exactly (.static RX4 "FIRST_SETTINGS" "[I") "[I").before #[Value.ref b] s = true := hs _ (by decide +kernel)
    obtain ⟨t, cell, ht, hat, hv⟩ := Term.length_spec hlen
    obtain ⟨hcell, hkn, hst, -⟩ := State.arrayAt?_spec hat
    obtain ⟨t2, c, cell2, k, q1, q2, q3, q4, q5, q6, -⟩ := Cond.exactly_spec hex
    cases ht.symm.trans q1
    cases hcell.symm.trans q3
    have hlt : cell.slots.size < 2147483648 := by
      simp only [Term.eval, Option.bind_eq_bind] at hlen ht
      simp only [ht, hat, Option.bind_some] at hlen
      by_cases h : cell.slots.size < 2147483648
      · exact h
      · simp [h] at hlen
    have hsz : cell.slots.size = 4 := by
      have h1 : Int32.ofNat cell.slots.size = 4 := (Value.int.inj hv).symm
      have h2 := Int32.toNatClampNeg_ofNat_of_lt (n := cell.slots.size) (by omega)
      rw [h1] at h2
      exact h2.symm
    have hel : ∀ j : Nat, j < 4 → cell.slots[j]? = some (.int (nFst j)) := by
      have key : ∀ (j : Nat) (z : Int32), j < 4 → (Term.elem (.static RX4 "FIRST_SETTINGS" "[I") (.int (Int32.ofNat j))).eval #[Value.ref b] s none [] s = some (.int z) → cell.slots[j]? = some (.int z) := by
        intro j z hj he
        obtain ⟨a, i, cell3, h1, h2, h3, h4, h5⟩ := Term.elem_spec he
        cases ht.symm.trans h1
        cases hat.symm.trans h3
        have hi : i = Int32.ofNat j := by
          have e : (Term.int (Int32.ofNat j)).eval #[Value.ref b] s none [] s = some (.int (Int32.ofNat j)) := rfl
          cases h2.symm.trans e
          rfl
        rw [hi, Int32.toNatClampNeg_ofNat_of_lt (by omega)] at h5
        exact h5
      intro j hj
      rcases (show j = 0 ∨ j = 1 ∨ j = 2 ∨ j = 3 by omega) with rfl | rfl | rfl | rfl
      · exact key 0 6 (by decide) (va_eqt (z := 6) (hs _ (by decide +kernel)))
      · exact key 1 2 (by decide) (va_eqt (z := 2) (hs _ (by decide +kernel)))
      · exact key 2 5 (by decide) (va_eqt (z := 5) (hs _ (by decide +kernel)))
      · exact key 3 4 (by decide) (va_eqt (z := 4) (hs _ (by decide +kernel)))
    refine ⟨t, va_Zof (hts _ (by decide +kernel)) hini ht hA, hA t (Array.getElem?_eq_some_iff.mp hcell).1, cell, hcell, fun k h => ?_, hkn, by rw [q6]; exact q2, ?_⟩
    · rw [h] at hst
      cases hst
    · apply Array.ext_getElem?
      intro j
      by_cases hj : j < 4
      · rw [hel j hj]
        exact (arrV_read cell.cls (fun j => Value.int (nFst j)) hj).symm
      · rw [Array.getElem?_eq_none (by omega), Array.getElem?_eq_none (by rw [show (vp_cell cell.cls (4, .inl nFst)).slots.size = 4 from arrV_size _ _ _]; omega)]
  obtain ⟨t0, z0⟩ := k0
  obtain ⟨t1, z1⟩ := k1
  obtain ⟨t2, z2⟩ := k2
  obtain ⟨t3, z3⟩ := k3
  refine ⟨fun k => if k = 1000 then t0 else if k = 1001 then t1 else if k = 1002 then t2 else t3, fun k hk => ?_, z3⟩
  rcases (show k = 0 ∨ k = 1 ∨ k = 2 by omega) with rfl | rfl | rfl
  · exact z0
  · exact z1
  · exact z2
