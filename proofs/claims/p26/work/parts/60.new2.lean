/-! ===== an array of arrays, made at once ===== -/
def nmO (c2 : ClassId) (a h i : Nat) : Cell := arrV c2 a (fun j => if j < i then .ref (h + 1 + j) else .null)
def nmI (c0 : ClassId) (b : Nat) : Cell := arrV c0 b (fun _ => .int 0)
/-- when i rows stand in it -/
def nmS (s : State) (c2 c0 : ClassId) (a b : Nat) : Nat → State
  | 0 => s.pushCell (nmO c2 a s.heap.size 0)
  | i + 1 => ((nmS s c2 c0 a b i).pushCell (nmI c0 b)).setCell s.heap.size (nmO c2 a s.heap.size (i + 1))
theorem nmO_next (c2 : ClassId) (a h i : Nat) : (nmO c2 a h i).setSlot i (.ref (h + 1 + i)) = nmO c2 a h (i + 1) := by
  unfold nmO
  rw [arrV_store]
  congr 1
  funext j
  unfold updV
  by_cases hj : j = i
  · subst hj
    simp
  · by_cases h2 : j < i
    · rw [if_neg hj]
      show (if j < i then Value.ref (h + 1 + j) else Value.null) = _
      rw [if_pos h2, if_pos (by omega)]
    · rw [if_neg hj]
      show (if j < i then Value.ref (h + 1 + j) else Value.null) = _
      rw [if_neg h2, if_neg (by omega)]
theorem nmS_facts (s : State) (c2 c0 : ClassId) (a b : Nat) : ∀ i : Nat, (nmS s c2 c0 a b i).heap.size = s.heap.size + 1 + i ∧ (nmS s c2 c0 a b i).vm = s.vm ∧ (nmS s c2 c0 a b i).slotsUsed = s.slotsUsed + a + i * b ∧ (nmS s c2 c0 a b i).heap[s.heap.size]? = some (nmO c2 a s.heap.size i) ∧ (∀ q : Nat, q < s.heap.size → (nmS s c2 c0 a b i).heap[q]? = s.heap[q]?) ∧ ∀ j : Nat, j < i → (nmS s c2 c0 a b i).heap[s.heap.size + 1 + j]? = some (nmI c0 b)
  | 0 => by
    refine ⟨by simp [nmS], rfl, ?_, by simp [nmS], fun q hq => State.heap_pushCell_of_lt _ _ hq, fun j hj => absurd hj (Nat.not_lt_zero j)⟩
    show s.slotsUsed + (nmO c2 a s.heap.size 0).slots.size = _
    rw [show (nmO c2 a s.heap.size 0).slots.size = a from arrV_size _ _ _]
    omega
  | i + 1 => by
    obtain ⟨f1, f2, f3, f4, f5, f6⟩ := nmS_facts s c2 c0 a b i
    have p1 : ((nmS s c2 c0 a b i).pushCell (nmI c0 b)).heap.size = s.heap.size + 1 + i + 1 := by simp [f1]
    have other : ∀ q : Nat, q ≠ s.heap.size → (nmS s c2 c0 a b (i + 1)).heap[q]? = ((nmS s c2 c0 a b i).pushCell (nmI c0 b)).heap[q]? := fun q hq => heapAt_setCell_ne _ (Ne.symm hq)
    refine ⟨?_, f2, ?_, ?_, fun q hq => ?_, fun j hj => ?_⟩
    · show (((nmS s c2 c0 a b i).pushCell (nmI c0 b)).setCell s.heap.size _).heap.size = _
      rw [size_setCell, p1]
      omega
    · show (nmS s c2 c0 a b i).slotsUsed + (nmI c0 b).slots.size = _
      rw [show (nmI c0 b).slots.size = b from arrV_size _ _ _, f3, Nat.succ_mul]
      omega
    · have hlt : s.heap.size < ((nmS s c2 c0 a b i).pushCell (nmI c0 b)).heap.size := by rw [p1]; omega
      exact heapAt_setCell_self _ hlt
    · rw [other q (Nat.ne_of_lt hq), State.heap_pushCell_of_lt (nmS s c2 c0 a b i) (nmI c0 b) (show q < _ by rw [f1]; omega)]
      exact f5 q hq
    · rw [other _ (by omega)]
      by_cases hji : j = i
      · subst hji
        rw [← f1]
        exact State.heap_pushCell_size _ _
      · rw [State.heap_pushCell_of_lt (nmS s c2 c0 a b i) (nmI c0 b) (show s.heap.size + 1 + j < _ by rw [f1]; omega)]
        exact f6 j (by omega)
theorem nmS_top (s : State) (f : JFrame) (c2 c0 : ClassId) (a b : Nat) : ∀ i : Nat, nmS (s.setTop f) c2 c0 a b i = (nmS s c2 c0 a b i).setTop f
  | 0 => rfl
  | i + 1 => by
    unfold nmS
    rw [nmS_top s f c2 c0 a b i]
    rfl
section NMW
variable {E : CtlPost} {e : Env} {d : Bool} {acts : List Action} {s : State}
theorem nm_row {c0 cc : ClassId} {k0 : Class} {x : Int32} (hk : s.vm.classes[c0]? = some k0) (hkind : k0.kind = .array cc .int) (hx : ¬ x < 0) (hl : ¬ x.toNatClampNeg > e.platform.arrayLengthLimit) (hh : ¬ x.toNatClampNeg * componentBytes .int > e.platform.maxHeapBytes) (h1 : s.heap.size < e.platform.maxCells) (h2 : s.slotsUsed + x.toNatClampNeg ≤ e.platform.maxSlots) {Q : Addr → Pre}
    (hq : ∀ acts', Q s.heap.size d acts' (s.pushCell (nmI c0 x.toNatClampNeg))) : wp (multianewarray.make c0 [x]) Q E e d acts s := by
  have hcell : ({ cls := c0, slots := Array.replicate x.toNatClampNeg (defaultValue .int) } : Cell) = nmI c0 x.toNatClampNeg := arrV_new _ _ _
  unfold multianewarray.make
  simp only [wp_bind', W.ite, hx, if_false, wp_pure', W.theClass, hk, hkind, Option.some.injEq, exists_eq_left']
  exact W.newArray_of hk hkind hl hh h1 h2 rfl (fun acts' => by rw [hcell]; exact hq acts')
theorem nm_all {c2 c0 cc : ClassId} {k2 k0 : Class} {z x : Int32} (hk2 : s.vm.classes[c2]? = some k2) (hkind2 : k2.kind = .array c0 (.array .int)) (hk : s.vm.classes[c0]? = some k0) (hkind : k0.kind = .array cc .int) (hz : ¬ z < 0) (hx : ¬ x < 0) (hl2 : ¬ z.toNatClampNeg > e.platform.arrayLengthLimit) (hh2 : ¬ z.toNatClampNeg * componentBytes (.array .int) > e.platform.maxHeapBytes) (hl : ¬ x.toNatClampNeg > e.platform.arrayLengthLimit) (hh : ¬ x.toNatClampNeg * componentBytes .int > e.platform.maxHeapBytes)
    (h1 : s.heap.size + (1 + z.toNatClampNeg) ≤ e.platform.maxCells) (h2 : s.slotsUsed + (z.toNatClampNeg + z.toNatClampNeg * x.toNatClampNeg) ≤ e.platform.maxSlots) {Q : Addr → Pre}
    (hq : ∀ d' acts', Q s.heap.size d' acts' (nmS s c2 c0 z.toNatClampNeg x.toNatClampNeg z.toNatClampNeg)) : wp (multianewarray.make c2 [z, x]) Q E e d acts s := by
  have hcell : ({ cls := c2, slots := Array.replicate z.toNatClampNeg .null } : Cell) = nmO c2 z.toNatClampNeg s.heap.size 0 := by
    rw [arrV_new]
    unfold nmO
    congr 1
  have hnone : ([x].find? (· < 0)) = none := by simp [hx]
  generalize hb : x.toNatClampNeg = b at *
  generalize ha : z.toNatClampNeg = a at *
  unfold multianewarray.make
  simp only [wp_bind', W.ite, hz, if_false, wp_pure', W.theClass, hk2, hkind2, Option.some.injEq, exists_eq_left', ha]
  refine W.newArray_of hk2 hkind2 hl2 hh2 (by omega) (by omega) rfl (fun acts' => ?_)
  rw [hcell]
  simp only [hnone]
  rw [ite_self, wp_bind', Std.Legacy.Range.forIn_eq_forIn_range']
  rw [show ([:a] : Std.Legacy.Range).size = a by simp [Std.Legacy.Range.size]]
  refine wp_forIn_inv (fun l s' => ∃ i : Nat, i + l.length = a ∧ l = List.range' i l.length ∧ s' = nmS s c2 c0 a b i) _ _ ⟨0, by simp, by simp, rfl⟩ ?_ ?_
  · rintro r l s' d' acts2 Q' ⟨i, h3, h4, rfl⟩ hnext
    obtain ⟨f1, f2, f3, f4, f5, f6⟩ := nmS_facts s c2 c0 a b i
    rw [List.length_cons] at h3
    rw [List.length_cons, List.range'_succ] at h4
    obtain ⟨rfl, h5⟩ := List.cons.inj h4
    have hm : r * b + b ≤ a * b := by
      have := Nat.mul_le_mul_right b (show r + 1 ≤ a by omega)
      rwa [Nat.succ_mul] at this
    simp only [wp_bind']
    refine nm_row (by rw [f2]; exact hk) hkind hx (by rw [hb]; exact hl) (by rw [hb]; exact hh) (by rw [f1]; omega) (by rw [f3, hb]; omega) (fun acts3 => ?_)
    rw [hb]
    have o3 : (nmO c2 a s.heap.size r).slots.size = a := arrV_size _ _ _
    simp only [wp_bind', W.writeLoc, wp_pure']
    refine ⟨nmO c2 a s.heap.size r, by rw [State.heap_pushCell_of_lt (nmS s c2 c0 a b r) (nmI c0 b) (show s.heap.size < _ by rw [f1]; omega)]; exact f4, fun q => (by cases q), (by rw [o3]; omega), ?_, hnext _ _ _ ⟨r + 1, by omega, h5, ?_⟩⟩
    · have e2 : (nmS s c2 c0 a b r).vm.classes[c2]? = some k2 := by
        rw [f2]
        exact hk2
      show State.fitsSlot _ c2 .none r _ = true
      simp [State.fitsSlot, State.slotType?, e2, hkind2, fits]
    · rw [f1, nmO_next]
      rfl
  · rintro s' d' acts2 ⟨i, h3, h4, rfl⟩
    have hi : i = a := by simpa using h3
    subst hi
    simp only [wp_pure']
    exact hq _ _
end NMW
theorem nm_stand {p : Program} {l : Launch} {e : Env} {R : Room} {s : State} {m : MethodId} {args : Array Value} {below : List Frame} {meth : Method} {c : Code} {T : State} {locs : List Loc} {cells slots : Nat} (X : Stand p l e R s m args below meth c T locs cells slots) (c2 c0 : ClassId) (a b : Nat) : ∀ i : Nat, Stand p l e R s m args below meth c (nmS T c2 c0 a b i) (locs ++ (List.range i).map (fun j => (⟨T.heap.size, j⟩ : Loc))) (cells + 1 + i) (slots + a + i * b)
  | 0 => by
    have h := X.pushed (nmO c2 a T.heap.size 0)
    rw [show (nmO c2 a T.heap.size 0).slots.size = a from arrV_size _ _ _] at h
    simpa [nmS] using h
  | i + 1 => by
    obtain ⟨f1, f2, f3, f4, f5, f6⟩ := nmS_facts T c2 c0 a b i
    have h := ((nm_stand X c2 c0 a b i).pushed (nmI c0 b)).stored (a := T.heap.size) (cell := nmO c2 a T.heap.size i) (by rw [State.heap_pushCell_of_lt (nmS T c2 c0 a b i) (nmI c0 b) (show T.heap.size < _ by rw [f1]; omega)]; exact f4) i (.ref (T.heap.size + 1 + i))
    rw [nmO_next, show (nmI c0 b).slots.size = b from arrV_size _ _ _, List.append_assoc] at h
    rw [List.range_succ, List.map_append, Nat.succ_mul, ← Nat.add_assoc (slots + a)]
    exact h
section NM
variable {G : zG} {A : Nat → Prop} {y : MethodName} {Y : zY} {mc ms : Nat} {Q : va_W → Prop} {pc : Nat} {lo : List (Nat × Value)} {st : List Value} {ws : va_W} {k n : Nat}
/-- its world: the outer array, and its rows -/
def nmW (G : zG) (q : Nat) : va_W := (q, .inl (G.2.2.1 2, 9, .inr (.inr (.inr (.inr (fun j => if j < 9 then some (q + 1 + j) else none)))))) :: (List.range 9).map (fun j : Nat => (q + 1 + j, .inl (G.2.2.1 0, 9, .inl (fun _ => 0))))
theorem nmW_get {G : zG} {q i : Nat} {x : Nat × va_E} (h : (nmW G q)[i]? = some x) : i < 10 ∧ x.1 = q + i ∧ (i = 0 → x.2 = .inl (G.2.2.1 2, 9, .inr (.inr (.inr (.inr (fun j => if j < 9 then some (q + 1 + j) else none)))))) ∧ (0 < i → x.2 = .inl (G.2.2.1 0, 9, .inl (fun _ => 0))) := by
  cases i with
  | zero =>
    cases h
    exact ⟨by omega, rfl, fun _ => rfl, fun q => absurd q (Nat.lt_irrefl 0)⟩
  | succ j =>
    have h1 : ((List.range 9).map (fun j : Nat => ((q + 1 + j, .inl (G.2.2.1 0, 9, .inl (fun _ => 0))) : Nat × va_E)))[j]? = some x := h
    have hj : j < 9 := by have := (List.getElem?_eq_some_iff.mp h1).1; simpa using this
    rw [List.getElem?_map, List.getElem?_range hj] at h1
    cases h1
    exact ⟨by omega, by show q + 1 + j = q + (j + 1); omega, fun q => absurd q (by omega), fun _ => rfl⟩
theorem nmO_full (c2 : ClassId) (a h : Nat) : nmO c2 a h a = vp_cell c2 (a, .inr (.inr (.inr (.inr (fun j => if j < a then some (h + 1 + j) else none))))) := by
  rw [vp_cell_q]
  unfold nmO
  refine congrArg (arrV c2 a) ?_
  funext j
  by_cases hj : j < a
  · rw [if_pos hj, if_pos hj]
    rfl
  · rw [if_neg hj, if_neg hj]
    rfl
theorem n_multi {index : Nat} (hd : decode Y.2.1 pc = .ok (.multianewarray index 2, 4)) (hcl : Cond.classLink Y.1 index "[[I" ∈ zT) (hkc : k + 10 ≤ mc) (hns : n + 90 ≤ ms)
    (kk : ∀ q : Nat, nW G A y Y mc ms Q (pc + 4) lo (.ref q :: st) (ws ++ nmW G q) (k + 10) (n + 90)) : nW G A y Y mc ms Q pc lo (.int 9 :: .int 9 :: st) ws k n := by
  intro p e s m args below meth c C H locs ls hP hD hS hl
  obtain ⟨hx, hb, hml, hr, hts, hown, hlk, hK, hF, hN0, hWo, hnm, hA⟩ := id C
  intro T hT X
  have hpl : e.platform.magicAccessors = ({} : Platform).magicAccessors := by rw [X.admits.platform]
  obtain ⟨h2, kA, hkA, hkindA⟩ := hWo.2
  obtain ⟨-, kI, hkI, cI, hkindI⟩ := (hK.2 0 (G.2.2.1 0, .int) rfl).1 0 (fun _ => .null)
  have hn2 : s.vm.findClass "[[I" = some (G.2.2.1 2) := (hK.2 2 (G.2.2.1 2, .array .int) rfl).2
  obtain ⟨c1, hc1, hcl2⟩ := Cond.classLink_spec hown (hts _ hcl) e.platform hpl
  cases hn2.symm.trans hc1
  obtain ⟨hg1, hw1, hr1⟩ := State.classEntry (e := e) X.warmed hcl2
  generalize T.vm.noted m.cls index (.cls (G.2.2.1 2)) = vm1 at hg1 hw1 hr1
  obtain ⟨kA1, hkA1, heA⟩ := hw1.alike.2.2 _ _ hkA
  obtain ⟨kI1, hkI1, heI⟩ := hw1.alike.2.2 _ _ hkI
  have X1 := X.noted hw1
  obtain ⟨r1, r2⟩ := X.roomAbove (a := 10) (b := 90) hkc hns
  have e9 : (9 : Int32).toNatClampNeg = 9 := rfl
  have XF := nm_stand X1 (G.2.2.1 2) (G.2.2.1 0) 9 9 9
  have hTh : (T.setVm vm1).heap = H := hT
  have hfacts := nmS_facts (T.setVm vm1) (G.2.2.1 2) (G.2.2.1 0) 9 9 9
  have htop := fun f => nmS_top (T.setVm vm1) f (G.2.2.1 2) (G.2.2.1 0) 9 9 9
  have hmake := fun (s' : State) E d acts Q (hs : s' = (T.setVm vm1).setTop (F0 m pc ls st)) => nm_all (E := E) (e := e) (d := d) (acts := acts) (s := s') (Q := Q) (z := 9) (x := 9) (k2 := kA1) (k0 := kI1) (c2 := G.2.2.1 2) (c0 := G.2.2.1 0) (cc := cI)
  rw [e9] at hmake
  rw [nmO_full, hTh] at hfacts
  generalize hN : nmS (T.setVm vm1) (G.2.2.1 2) (G.2.2.1 0) 9 9 9 = N at XF hfacts htop
  obtain ⟨f1, f2, f3, f4, f5, f6⟩ := hfacts
  have hkeep : ∀ (j : Nat) (x : Nat × va_E), ws[j]? = some x → N.heap[x.1]? = H[x.1]? := fun j x hj => f5 x.1 (hP j x hj).lt
  have hPn : va_P G.2.2.2 zm_cls (nmW G H.size) N.heap := by
    intro i x hi
    obtain ⟨g1, g2, g3, g4⟩ := nmW_get hi
    obtain ⟨xa, xe⟩ := x
    by_cases h0 : i = 0
    · subst h0
      have e1 := g3 rfl
      subst e1
      have e2 : xa = H.size := g2
      subst e2
      exact f4
    · have e1 := g4 (by omega)
      subst e1
      have e2 : xa = H.size + 1 + (i - 1) := by have : xa = H.size + i := g2; omega
      subst e2
      exact f6 (i - 1) (by omega)
  have hDn : va_D A (ws ++ nmW G H.size) := by
    refine va_D.app hD ⟨fun i j a b hi hj hab => ?_, fun i a hi => ?_⟩ (fun i j a b hi hj hab => ?_)
    · have a1 := nmW_get hi
      have b1 := nmW_get hj
      omega
    · have a1 := nmW_get hi
      exact hA _ (by have := hS.1; omega)
    · have b1 := nmW_get hj
      have := (hP i a hi).lt
      omega
  obtain ⟨t, b1, b2⟩ := kk H.size p e s m args below meth c C N.heap _ ls ((hP.kept hkeep).app hPn) hDn ⟨by rw [f1]; have := hS.1; omega, fun q h1 h2 => (f5 q (Nat.lt_of_lt_of_le h1 hS.1)).trans (hS.2.1 q h1 h2), fun x hx => by
    rcases List.mem_append.mp hx with h | h
    · exact hS.2.2 x h
    · obtain ⟨j, -, rfl⟩ := List.mem_map.mp h
      exact hA _ (by show s.heap.size ≤ (T.setVm vm1).heap.size; rw [hTh]; exact hS.1)⟩ hl _ rfl XF
  refine ⟨t, ?_, b2⟩
  have hl1 : ¬ 9 > e.platform.arrayLengthLimit := by rw [Launch.admits_arrayLengthLimit X.admits]; omega
  have hh1 : ¬ 9 * componentBytes (.array .int) > e.platform.maxHeapBytes := by
    rw [Launch.admits_maxHeapBytes X.admits]; show ¬ 9 * 4 > 536870912; omega
  have hh2 : ¬ 9 * componentBytes .int > e.platform.maxHeapBytes := by
    rw [Launch.admits_maxHeapBytes X.admits]; show ¬ 9 * 4 > 536870912; omega
  have hd' : decode c.code pc = .ok (.multianewarray index 2, 4) := by rw [hb]; exact hd
  jvm_step X.here [hx, hd']
  simp only [multianewarray.sem, wp_bind', W.resolveClassAt_links (State.method?_setTop (F0 m pc ls (.int 9 :: .int 9 :: st)) X.here.top) hg1]
  rw [W.popN, if_neg (by decide)]
  refine ⟨F0 m pc ls (.int 9 :: .int 9 :: st), State.topJava?_setTop' (s := T.setVm vm1) (F0 m pc ls (.int 9 :: .int 9 :: st)) X.here.top, [.int 9, .int 9], st, rfl, rfl, ?_⟩
  simp only [List.mapM_cons, List.mapM_nil, wp_bind', wp_pure']
  have eS : ((T.setTop (F0 m pc ls (.int 9 :: .int 9 :: st))).setVm vm1).setTop { F0 m pc ls (.int 9 :: .int 9 :: st) with stack := st } = (T.setVm vm1).setTop (F0 m pc ls st) := by
    show ((T.setVm vm1).setTop _).setTop _ = _
    rw [State.setTop_setTop]
  rw [eS]
  refine hmake _ _ _ _ _ rfl hkA1 (by rw [heA]; exact hkindA) hkI1 (by rw [heI]; exact hkindI) (by decide) (by decide) hl1 hh1 hl1 hh2 (by show T.heap.size + 10 ≤ _; exact r1) (by show T.slotsUsed + 90 ≤ _; exact r2) (fun d' acts' => ?_)
  rw [htop]
  simp only [wp_bind', W.mark, W.pushRef, State.topJava?_setTop' _ XF.here.top, Option.some.injEq, exists_eq_left', State.setTop_setTop, State.heap_setTop]
  intro acts
  simp [jvm, XF.here.top]
  rw [show T.heap.size = H.size by rw [hT]]
  exact b1
end NM
