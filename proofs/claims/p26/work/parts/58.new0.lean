/-! ===== new objects: a judgement over a world that grows ===== -/
/-- the first settings, a static array that nobody writes, at position 1003 -/
def nFst : Nat → Int32 := fun j => Int32.ofInt (([6, 2, 5, 4] : List Int).getD j 0)
def nF (G : zG) (A : Nat → Prop) (U : State) (H : Heap) : Prop :=
  va_Z RX4 "FIRST_SETTINGS" "[I" (.ref (G.2.1 1003)) A U H ∧ ¬ A (G.2.1 1003) ∧ ∃ cell : Cell, H[G.2.1 1003]? = some cell ∧ (∀ k, cell.vm ≠ .statics k) ∧ cell.vm ≠ .unknown ∧ cell.cls = G.2.2.1 0 ∧ cell.slots = (vp_cell (G.2.2.1 0) (4, .inl nFst)).slots
theorem nF.moved {G : zG} {A : Nat → Prop} {u U : State} {H : Heap} (hvm : u.vm.Alike U.vm) (h : nF G A u H) : nF G A U H := ⟨h.1.moved hvm, h.2⟩
theorem nF.kept {G : zG} {A : Nat → Prop} {U : State} {H H1 : Heap} (h : nF G A U H) (hq : ∀ a : Nat, a < H.size → ¬ A a → H1[a]? = H[a]?) : nF G A U H1 := by
  obtain ⟨h1, h2, cell, h3, h4⟩ := h
  exact ⟨h1.kept hq, h2, cell, by rw [hq _ (Array.getElem?_eq_some_iff.mp h3).1 h2]; exact h3, h4⟩
theorem nF.narrow {G : zG} {A B : Nat → Prop} {U : State} {H : Heap} (h : nF G A U H) (hAB : ∀ q, B q → A q) : nF G B U H :=
  ⟨h.1.narrow hAB, fun q => h.2.1 (hAB _ q), h.2.2⟩
/-- the words that are kept in another way -/
def nWo (G : zG) (U : State) : Prop := va_AO RX1 U ∧ va_Nw (.castable "[I" "java/lang/Cloneable") U ∧ ∃ kA : Class, U.vm.classes[G.2.2.1 2]? = some kA ∧ kA.kind = .array (G.2.2.1 0) (.array .int)
theorem nWo.warm {G : zG} {s U : State} (hW : s.WarmedH U.vm) (h : nWo G s) : nWo G U := by
  obtain ⟨h1, h2, kA, h3, h4⟩ := h
  obtain ⟨k', hk', he⟩ := hW.alike.2.2 _ _ h3
  exact ⟨h1.moved hW.alike, va_Nw.warmC hW h2, k', hk', by rw [he]; exact h4⟩
theorem nWo.same {G : zG} {u U : State} (hvm : u.vm = U.vm) (h : nWo G u) : nWo G U := by
  obtain ⟨h1, h2, h3⟩ := h
  refine ⟨h1.moved (hvm ▸ Vm.Alike.refl u.vm), va_Nw.same rfl hvm h2, ?_⟩
  rw [← hvm]
  exact h3
def nR (d mc ms : Nat) : Room := { frames := d, cells := mc, slots := ms, locals := 40 * d }
def nCx (G : zG) (A : Nat → Prop) (y : MethodName) (Y : zY) (p : Program) (s : State) (m : MethodId) (args : Array Value) (meth : Method) (c : Code) : Prop :=
  p.tables.exec = Jvm.exec ∧ c.code = Y.2.1 ∧ c.maxLocals = Y.2.2.1 ∧ meth.sig.returnType = Y.2.2.2.1 ∧ (∀ w ∈ zT, w.before args s = true) ∧ s.vm.findClass Y.1 = some m.cls ∧ meth.locks = false ∧ va_K G.2.2.2 zm_cls (zm_tys G) s ∧ nF G A s s.heap ∧ zNs s ∧ nWo G s ∧ meth.name = y.name ∧ ∀ q, s.heap.size ≤ q → A q
def nQc (G : zG) (A : Nat → Prop) (Q : va_W → Prop) : Array Value → State → Outcome → State → Prop := fun _ st oc t => (oc = .returned none ∧ ∃ ws : va_W, Q ws ∧ va_P G.2.2.2 zm_cls ws t.heap ∧ va_D A ws) ∧ va_F A st t
/-- THE JUDGEMENT of a method that makes: from there, over the world ws, k cells and n slots made, it comes to its end with Q -/
def nW (G : zG) (A : Nat → Prop) (y : MethodName) (Y : zY) (mc ms : Nat) (Q : va_W → Prop) (pc : Nat) (lo : List (Nat × Value)) (st : List Value) (ws : va_W) (k n : Nat) : Prop :=
  ∀ (p : Program) (e : Env) (s : State) (m : MethodId) (args : Array Value) (below : List Frame) (meth : Method) (c : Code), nCx G A y Y p s m args meth c →
    ∀ (H : Heap) (locs : List Loc) (ls : Array Slot), va_P G.2.2.2 zm_cls ws H → va_D A ws → va_S A s.heap H locs → lv_has ls Y.2.2.1 lo →
      W p G.1 e (nR Y.2.2.2.2 mc ms) s m args below meth c H locs k n (MQ below (nQc G A Q) args s mc ms A) (F0 m pc ls st)
def nPre (G : zG) (ws : va_W) (sz : Nat) (U : State) : Prop := U.heap.size = sz ∧ va_P G.2.2.2 zm_cls ws U.heap ∧ va_D (fun _ => True) ws ∧ va_K G.2.2.2 zm_cls (zm_tys G) U ∧ nF G (va_A ws sz) U U.heap ∧ zNs U ∧ nWo G U
/-- its contract -/
def nCall (G : zG) (y : MethodName) (Y : zY) (av : List Value) (ws : va_W) (mc ms : Nat) (Q : va_W → Prop) : Prop :=
  ∀ sz : Nat, Met G.1 y (zWs y Y) (nR Y.2.2.2.2 mc ms) (va_Pc av (nPre G ws sz)) (nQc G (va_A ws sz) Q) mc ms (va_A ws sz)
theorem nEnter {G : zG} {y : MethodName} {Y : zY} {av : List Value} {ws : va_W} {mc ms : Nat} {Q : va_W → Prop} (hp : plainName y.cls = true) (hY : Y.1 = y.cls) (hn : (lg_sl av).length ≤ Y.2.2.1)
    (k : ∀ A : Nat → Prop, nW G A y Y mc ms Q 0 (lv_args 0 av) [] ws 0 0) : nCall G y Y av ws mc ms Q := by
  intro sz
  refine Met.ofW (cc := Y.2.1) (maxL := Y.2.2.1) (ret := Y.2.2.2.1) (ws' := zT) hp rfl ?_
  intro p e s m args below meth c s₁ B hml hv
  obtain ⟨rfl, hsz, hP, hD, hK, hF, hN, hWo⟩ := hv
  have hts : ∀ w ∈ zT, w.before av.toArray s = true := fun w hw => atoms_spec (ws := zWs y Y) B.pre w (List.mem_cons_of_mem _ hw)
  have hown : s.vm.findClass Y.1 = some m.cls := by rw [hY]; exact findClass_of_methodNamed B.named
  have hin : meth.name = y.name := (name_of_methodNamed B.named B.method).1
  have hl := lv_entry av (n := Y.2.2.1) hn
  subst hsz
  rw [lg_entry_eq]
  exact k (va_A ws s.heap.size) p e s m _ below meth c ⟨B.exec, B.bytes, hml, B.returns, hts, hown, B.notSynchronized, hK, hF, hN, hWo, hin, fun q h => Or.inr h⟩ s.heap [] _ hP hD.self va_S.rf hl
theorem nPre_blind {G : zG} {ws : va_W} {sz : Nat} {av : List Value} : FrameBlind (va_Pc av (nPre G ws sz)) := by
  intro a U g mk h
  obtain ⟨h1, h2, hP, hD, hK, hF, hN, hWo⟩ := h
  exact ⟨h1, h2, hP, hD, va_K.moved (u := U) (U := U.calling g mk a) (Vm.Alike.refl U.vm) hK, nF.moved (u := U) (U := U.calling g mk a) (Vm.Alike.refl U.vm) hF, zNs.same (u := U) (U := U.calling g mk a) (Eq.refl U.vm) hN, nWo.same (u := U) (U := U.calling g mk a) (Eq.refl U.vm) hWo⟩
theorem nPre_now {G : zG} {A : Nat → Prop} {y : MethodName} {Y : zY} {p : Program} {s : State} {m : MethodId} {args : Array Value} {meth : Method} {c : Code} {ws : va_W} {H : Heap} {locs : List Loc} (C : nCx G A y Y p s m args meth c) (hP : va_P G.2.2.2 zm_cls ws H) (hD : va_D A ws) (hS : va_S A s.heap H locs) (U : State) (hU : U.heap = H) (hW : s.WarmedH U.vm) : nPre G ws H.size U := by
  obtain ⟨hx, hb, hml, hr, hts, hown, hlk, hK, hF, hN, hWo, hnm, hA⟩ := C
  have hAA : ∀ q, va_A ws H.size q → A q := by
    intro q hq
    rcases hq with ⟨k, e, hk⟩ | hq
    · exact hD.2 k _ hk
    · exact hA q (Nat.le_trans hS.1 hq)
  subst hU
  exact ⟨rfl, hP, hD.weaken (fun _ _ _ _ => trivial), va_K.moved hW.alike hK, ((hF.kept (fun a h1 h2 => hS.2.1 a h1 h2)).moved hW.alike).narrow hAA, hN.warm hW, hWo.warm hW⟩
section NR
variable {G : zG} {A : Nat → Prop} {y : MethodName} {Y : zY} {mc ms : Nat} {Q : va_W → Prop} {pc : Nat} {lo : List (Nat × Value)} {st : List Value} {ws : va_W} {k n : Nat}
theorem ncong {w2 : va_W} (h : ws = w2) (kk : nW G A y Y mc ms Q pc lo st w2 k n) : nW G A y Y mc ms Q pc lo st ws k n := h ▸ kk
theorem n_sub {l2 : List (Nat × Value)} (ks : List Nat) (h : lv_pick lo ks = l2) (kk : nW G A y Y mc ms Q pc l2 st ws k n) : nW G A y Y mc ms Q pc lo st ws k n := by
  intro p e s m args below meth c C H locs ls hP hD hS hl
  exact kk p e s m args below meth c C H locs ls hP hD hS (lv_sub hl ks h)
theorem n_iconst {i : Int} {v : Int32} (hd : decode Y.2.1 pc = .ok (.iconst i, 1)) (hv : Int32.ofInt i = v) (kk : nW G A y Y mc ms Q (pc + 1) lo (.int v :: st) ws k n) : nW G A y Y mc ms Q pc lo st ws k n := by
  intro p e s m args below meth c C H locs ls hP hD hS hl
  exact lv_iconst C.1 C.2.1 hd hv (kk p e s m args below meth c C H locs ls hP hD hS hl)
theorem n_bipush {i : Int} {v : Int32} (hd : decode Y.2.1 pc = .ok (.bipush i, 2)) (hv : (Int8.ofInt i).toInt32 = v) (kk : nW G A y Y mc ms Q (pc + 2) lo (.int v :: st) ws k n) : nW G A y Y mc ms Q pc lo st ws k n := by
  intro p e s m args below meth c C H locs ls hP hD hS hl
  exact lv_bipush C.1 C.2.1 hd hv (kk p e s m args below meth c C H locs ls hP hD hS hl)
theorem n_sipush {i : Int} {v : Int32} (hd : decode Y.2.1 pc = .ok (.sipush i, 3)) (hv : (Int16.ofInt i).toInt32 = v) (kk : nW G A y Y mc ms Q (pc + 3) lo (.int v :: st) ws k n) : nW G A y Y mc ms Q pc lo st ws k n := by
  intro p e s m args below meth c C H locs ls hP hD hS hl
  exact lv_sipush C.1 C.2.1 hd hv (kk p e s m args below meth c C H locs ls hP hD hS hl)
theorem n_aload_n {i : Fin 4} {x : Nat} (j : Nat) (hd : decode Y.2.1 pc = .ok (.aload_n i, 1)) (hk : lo[j]? = some ((i : Nat), .ref x)) (kk : nW G A y Y mc ms Q (pc + 1) lo (.ref x :: st) ws k n) : nW G A y Y mc ms Q pc lo st ws k n := by
  intro p e s m args below meth c C H locs ls hP hD hS hl
  exact lv_aload_n C.1 C.2.1 hd rfl (lv_at hl j hk) (kk p e s m args below meth c C H locs ls hP hD hS hl)
theorem n_iload_n {i : Fin 4} {x : Int32} (j : Nat) (hd : decode Y.2.1 pc = .ok (.iload_n i, 1)) (hk : lo[j]? = some ((i : Nat), .int x)) (kk : nW G A y Y mc ms Q (pc + 1) lo (.int x :: st) ws k n) : nW G A y Y mc ms Q pc lo st ws k n := by
  intro p e s m args below meth c C H locs ls hP hD hS hl
  exact lv_iload_n C.1 C.2.1 hd rfl (lv_at hl j hk) (kk p e s m args below meth c C H locs ls hP hD hS hl)
theorem n_istore_n {i : Fin 4} {x : Int32} {l2 : List (Nat × Value)} (hd : decode Y.2.1 pc = .ok (.istore_n i, 1)) (hn : (i : Nat) < Y.2.2.1) (hl2 : ((i : Nat), Value.int x) :: lo.filter (fun q => !(q.1 == (i : Nat)) && !(q.1 + 1 == (i : Nat) && q.2.category == 2)) = l2) (kk : nW G A y Y mc ms Q (pc + 1) l2 st ws k n) : nW G A y Y mc ms Q pc lo (.int x :: st) ws k n := by
  intro p e s m args below meth c C H locs ls hP hD hS hl
  exact lv_istore_n C.1 C.2.1 hd rfl hl hn hl2 (fun ls' hl' => kk p e s m args below meth c C H locs ls' hP hD hS hl')
theorem n_iinc {i j : Nat} {d : Int} {x v : Int32} {l2 : List (Nat × Value)} (hd : decode Y.2.1 pc = .ok (.iinc i d, 3)) (hk : lo[j]? = some (i, .int x)) (hv : x + Int32.ofInt d = v) (hn : i < Y.2.2.1) (hl2 : (i, Value.int v) :: lo.filter (fun q => !(q.1 == i) && !(q.1 + 1 == i && q.2.category == 2)) = l2) (kk : nW G A y Y mc ms Q (pc + 3) l2 st ws k n) : nW G A y Y mc ms Q pc lo st ws k n := by
  intro p e s m args below meth c C H locs ls hP hD hS hl
  exact lv_iinc C.1 C.2.1 hd hl hk hv hn hl2 (fun ls' hl' => kk p e s m args below meth c C H locs ls' hP hD hS hl')
theorem n_iadd {x z : Int32} (hd : decode Y.2.1 pc = .ok (.iadd, 1)) (kk : nW G A y Y mc ms Q (pc + 1) lo (.int (x + z) :: st) ws k n) : nW G A y Y mc ms Q pc lo (.int z :: .int x :: st) ws k n := by
  intro p e s m args below meth c C H locs ls hP hD hS hl
  exact lv_iadd C.1 C.2.1 hd (kk p e s m args below meth c C H locs ls hP hD hS hl)
theorem n_dup {v : Value} (hd : decode Y.2.1 pc = .ok (.dup, 1)) (hv : v.category = 1) (kk : nW G A y Y mc ms Q (pc + 1) lo (v :: v :: st) ws k n) : nW G A y Y mc ms Q pc lo (v :: st) ws k n := by
  intro p e s m args below meth c C H locs ls hP hD hS hl
  exact lv_dup C.1 C.2.1 hd hv (kk p e s m args below meth c C H locs ls hP hD hS hl)
theorem n_goto {off : Int} {tgt : Nat} (hd : decode Y.2.1 pc = .ok (.goto off, 3)) (ht : (pc : Int) + off = (tgt : Int)) (kk : nW G A y Y mc ms Q tgt lo st ws k n) : nW G A y Y mc ms Q pc lo st ws k n := by
  intro p e s m args below meth c C H locs ls hP hD hS hl
  exact lv_goto C.1 C.2.1 hd ht (kk p e s m args below meth c C H locs ls hP hD hS hl)
theorem n_icmp_ge {x z : Int32} {off : Int} {tgt : Nat} (hd : decode Y.2.1 pc = .ok (.if_icmp .ge off, 3)) (ht : (pc : Int) + off = (tgt : Int)) (kt : z ≤ x → nW G A y Y mc ms Q tgt lo st ws k n) (kf : ¬ z ≤ x → nW G A y Y mc ms Q (pc + 3) lo st ws k n) : nW G A y Y mc ms Q pc lo (.int z :: .int x :: st) ws k n := by
  intro p e s m args below meth c C H locs ls hP hD hS hl
  exact lv_icmp_ge C.1 C.2.1 hd ht (fun q => kt q p e s m args below meth c C H locs ls hP hD hS hl) (fun q => kf q p e s m args below meth c C H locs ls hP hD hS hl)
theorem n_obj {index a : Nat} (hd : decode Y.2.1 pc = .ok (.invokespecial index, 3)) (h1 : Cond.methodLink Y.1 index Lib.objectInit ∈ zT) (h2 : Cond.instanceMethod Lib.objectInit ∈ zT) (h3 : Cond.code Lib.objectInit ⟨#[0xb1]⟩ 1 none ∈ zT) (hf : 1 ≤ Y.2.2.2.2) (hst : (st.map fun v => v.category).sum ≤ 8) (kk : nW G A y Y mc ms Q (pc + 3) lo st ws k n) : nW G A y Y mc ms Q pc lo (.ref a :: st) ws k n := by
  intro p e s m args below meth c C H locs ls hP hD hS hl
  obtain ⟨hx, hb, hml, hr, hts, hown, hlk, hK, hF, hN, hWo, hnm, hA⟩ := id C
  exact W.objInit hx hb hown (hts _ h1) (hts _ h2) (hts _ h3) rfl (by rw [hml]; exact hl.1) rfl hd hf (by show 2 * 0 + _ + 12 ≤ 40 * Y.2.2.2.2; omega) (kk p e s m args below meth c C H locs ls hP hD hS hl)
theorem n_new {ci index : Nat} {fs : List Value} (hd : decode Y.2.1 pc = .ok (.new index, 3)) (hci : ci < 5) (hcl : Cond.classLink Y.1 index (zm_cR ci).1 ∈ zT) (hin : Cond.instantiable (zm_cR ci).1 (zm_cR ci).2.2 ∈ zT) (hini : Cond.initialized (zm_cR ci).1 ∈ zT) (hfs : ∀ j, j < (zm_cR ci).2.2 → defaultValue (zm_cT ci j) = vp_V fs j) (hkc : k + 1 ≤ mc) (hns : n + (zm_cR ci).2.2 ≤ ms)
    (kk : ∀ q : Nat, nW G A y Y mc ms Q (pc + 3) lo (.ref q :: st) (ws ++ [(q, .inr (ci, fs))]) (k + 1) (n + (zm_cR ci).2.2)) : nW G A y Y mc ms Q pc lo st ws k n := by
  intro p e s m args below meth c C H locs ls hP hD hS hl
  obtain ⟨hx, hb, hml, hr, hts, hown, hlk, hK, hF, hN, hWo, hnm, hA⟩ := id C
  obtain ⟨c1, c2, c3, c4⟩ := zm_cOk hci
  exact va_new (ci := ci) (fs := fs) hx hb hts c2 (zm_cT ci) c3 hown (hts _ hcl) (hts _ hin) (hts _ hini) hK hP hD hS hA c1 hfs hkc hns hd (fun q H1 hP1 hD1 hS1 => kk q p e s m args below meth c C H1 locs ls hP1 hD1 hS1 hl)
theorem n_int {s : State} {cA cB : ClassId} {ty : FieldType} (ht : ty = .int ∨ ty = .char) (h1 : va_RA s cA ty) (h2 : va_RA s cB ty) : cA = cB := by
  rcases ht with rfl | rfl
  · exact Option.some.inj ((show s.vm.findClass _ = some cA from h1).symm.trans h2)
  · exact Option.some.inj ((show s.vm.findClass _ = some cA from h1).symm.trans h2)
theorem n_newa {atype : ArrayType} {t N : Nat} {v : Int32} (hd : decode Y.2.1 pc = .ok (.newarray atype, 2)) (hat : (atype = .int ∧ t = 0) ∨ (atype = .char ∧ t = 1)) (harr : Cond.arrayClass (newarray.typeOf atype) ∈ zT) (hv : v = Int32.ofInt N) (hN : N < 100000) (hkc : k + 1 ≤ mc) (hns : n + N ≤ ms)
    (kk : ∀ q : Nat, nW G A y Y mc ms Q (pc + 2) lo (.ref q :: st) (ws ++ [(q, .inl (G.2.2.1 t, N, .inl (fun _ => 0)))]) (k + 1) (n + N)) : nW G A y Y mc ms Q pc lo (.int v :: st) ws k n := by
  intro p e s m args below meth c C H locs ls hP hD hS hl
  obtain ⟨hx, hb, hml, hr, hts, hown, hlk, hK, hF, hN0, hWo, hnm, hA⟩ := id C
  have h0 : ¬ v < 0 := fun q => by
    rw [hv] at q
    have := (zn_lt (a := (N : Int)) (b := 0) (by omega) (by omega)).mp q
    omega
  have h1 : v.toNatClampNeg = N := by rw [hv, zn_cl (by omega)]; omega
  rcases hat with ⟨rfl, rfl⟩ | ⟨rfl, rfl⟩
  · refine va_newa (atype := .int) (ty := .int) (a0 := (N, .inl (fun _ => 0))) hx hb (hts _ harr) rfl hK hP hD hS hA (fun _ => rfl) h0 h1 (by show N * 4 ≤ _; omega) hkc hns hd (fun q cA H1 hK1 hP1 hD1 hS1 => ?_)
    have he : cA = G.2.2.1 0 := n_int (Or.inl rfl) (hK1.2 4 (cA, .int) rfl).2 (hK.2 0 (G.2.2.1 0, .int) rfl).2
    subst he
    exact kk q p e s m args below meth c C H1 locs ls hP1 hD1 hS1 hl
  · refine va_newa (atype := .char) (ty := .char) (a0 := (N, .inl (fun _ => 0))) hx hb (hts _ harr) rfl hK hP hD hS hA (fun _ => rfl) h0 h1 (by show N * 2 ≤ _; omega) hkc hns hd (fun q cA H1 hK1 hP1 hD1 hS1 => ?_)
    have he : cA = G.2.2.1 1 := n_int (Or.inr rfl) (hK1.2 4 (cA, .char) rfl).2 (hK.2 1 (G.2.2.1 1, .char) rfl).2
    subst he
    exact kk q p e s m args below meth c C H1 locs ls hP1 hD1 hS1 hl
theorem n_newq {index N : Nat} {v : Int32} (hd : decode Y.2.1 pc = .ok (.anewarray index, 3)) (hcl : Cond.classLink Y.1 index RX1 ∈ zT) (hv : v = Int32.ofInt N) (hN : N < 100000) (hkc : k + 1 ≤ mc) (hns : n + N ≤ ms)
    (kk : ∀ q : Nat, nW G A y Y mc ms Q (pc + 3) lo (.ref q :: st) (ws ++ [(q, .inl (G.2.2.1 3, N, .inr (.inr (.inr (.inr (fun _ => none))))))]) (k + 1) (n + N)) : nW G A y Y mc ms Q pc lo (.int v :: st) ws k n := by
  intro p e s m args below meth c C H locs ls hP hD hS hl
  obtain ⟨hx, hb, hml, hr, hts, hown, hlk, hK, hF, hN0, hWo, hnm, hA⟩ := id C
  have h0 : ¬ v < 0 := fun q => by
    rw [hv] at q
    have := (zn_lt (a := (N : Int)) (b := 0) (by omega) (by omega)).mp q
    omega
  have h1 : v.toNatClampNeg = N := by rw [hv, zn_cl (by omega)]; omega
  refine va_newq hx hb hown (hts _ hcl) hWo.1 hK hP hD hS hA h0 h1 (by omega) hkc hns hd (fun q cA H1 hK1 hP1 hD1 hS1 => ?_)
  obtain ⟨_, _, _, _, _, e1⟩ := (hK1.2 4 (cA, .object RX1) rfl).2
  obtain ⟨_, _, _, _, _, e2⟩ := (hK.2 3 (G.2.2.1 3, .object RX1) rfl).2
  have he : cA = G.2.2.1 3 := Option.some.inj (e1.symm.trans e2)
  subst he
  exact kk q p e s m args below meth c C H1 locs ls hP1 hD1 hS1 hl
theorem n_putF {ci kf index q0 a : Nat} {fs : List Value} {v : Value} {w2 : va_W} (hd : decode Y.2.1 pc = .ok (.putfield index, 3)) (hci : ci < 5) (hkf : kf < (zm_cR ci).2.2) (hown1 : (zm_cR ci).1 = Y.1) (hdecl : ((zm_cR ci).2.1 kf).1 = (zm_cR ci).1) (hlink : Cond.fieldLink Y.1 index (zm_cR ci).1 ((zm_cR ci).2.1 kf).2.1 ((zm_cR ci).2.1 kf).2.2.1 ∈ zT) (hfin : ((zm_cR ci).2.1 kf).2.2.2 = true) (hinit : y.name = "<init>") (he : ws[q0]? = some (a, .inr (ci, fs))) (h1 : narrow (zm_cT ci kf) v = v) (h2 : fits (zm_cT ci kf) v = true) (hlen : kf < fs.length) (hw : ws.set q0 (a, .inr (ci, fs.set kf v)) = w2)
    (kk : nW G A y Y mc ms Q (pc + 3) lo st w2 k n) : nW G A y Y mc ms Q pc lo (v :: .ref a :: st) ws k n := by
  intro p e s m args below meth c C H locs ls hP hD hS hl
  obtain ⟨hx, hb, hml, hr, hts, hown, hlk, hK, hF, hN0, hWo, hnm, hA⟩ := id C
  obtain ⟨c1, c2, c3, c4⟩ := zm_cOk hci
  subst hw
  exact va_putF (v := v) hx hb hts c2 (zm_cT ci) c3 c4 hown hK hP hD hS q0 he c1 kf hkf (hts _ hlink) (fun x q => by rw [← hdecl]; exact q) hfin (hnm.trans hinit) (hdecl.trans hown1) (c3 kf hkf) h1 h2 hlen hd (fun H1 locs1 hP1 hD1 hS1 => kk p e s m args below meth c C H1 locs1 ls hP1 hD1 hS1 hl)
theorem n_put {ci kf index q0 a : Nat} {fs : List Value} {v : Value} {w2 : va_W} (hd : decode Y.2.1 pc = .ok (.putfield index, 3)) (hci : ci < 5) (hkf : kf < (zm_cR ci).2.2) (hdecl : ((zm_cR ci).2.1 kf).1 = (zm_cR ci).1) (hlink : Cond.fieldLink Y.1 index (zm_cR ci).1 ((zm_cR ci).2.1 kf).2.1 ((zm_cR ci).2.1 kf).2.2.1 ∈ zT) (hfin : ((zm_cR ci).2.1 kf).2.2.2 = false) (he : ws[q0]? = some (a, .inr (ci, fs))) (h1 : narrow (zm_cT ci kf) v = v) (h2 : fits (zm_cT ci kf) v = true) (hlen : kf < fs.length) (hw : ws.set q0 (a, .inr (ci, fs.set kf v)) = w2)
    (kk : nW G A y Y mc ms Q (pc + 3) lo st w2 k n) : nW G A y Y mc ms Q pc lo (v :: .ref a :: st) ws k n := by
  intro p e s m args below meth c C H locs ls hP hD hS hl
  obtain ⟨hx, hb, hml, hr, hts, hown, hlk, hK, hF, hN0, hWo, hnm, hA⟩ := id C
  obtain ⟨c1, c2, c3, c4⟩ := zm_cOk hci
  subst hw
  exact va_put (v := v) hx hb hts c2 (zm_cT ci) c3 c4 hown hK hP hD hS q0 he c1 kf hkf (hts _ hlink) (fun x q => by rw [← hdecl]; exact q) hfin (c3 kf hkf) h1 h2 hlen hd (fun H1 locs1 hP1 hD1 hS1 => kk p e s m args below meth c C H1 locs1 ls hP1 hD1 hS1 hl)
theorem n_get {ci kf index q0 a : Nat} {fs : List Value} {v : Value} (hd : decode Y.2.1 pc = .ok (.getfield index, 3)) (hci : ci < 5) (hkf : kf < (zm_cR ci).2.2) (hdecl : ((zm_cR ci).2.1 kf).1 = (zm_cR ci).1) (hlink : Cond.fieldLink Y.1 index (zm_cR ci).1 ((zm_cR ci).2.1 kf).2.1 ((zm_cR ci).2.1 kf).2.2.1 ∈ zT) (he : ws[q0]? = some (a, .inr (ci, fs))) (hv : fs[kf]? = some v)
    (kk : nW G A y Y mc ms Q (pc + 3) lo (v :: st) ws k n) : nW G A y Y mc ms Q pc lo (.ref a :: st) ws k n := by
  intro p e s m args below meth c C H locs ls hP hD hS hl
  obtain ⟨hx, hb, hml, hr, hts, hown, hlk, hK, hF, hN0, hWo, hnm, hA⟩ := id C
  obtain ⟨c1, c2, c3, c4⟩ := zm_cOk hci
  exact va_get hx hb hts c2 hown hK hP q0 he c1 kf hkf (hts _ hlink) (fun x q => by rw [← hdecl]; exact q) hv hd (kk p e s m args below meth c C H locs ls hP hD hS hl)
theorem n_iast {q0 a N : Nat} {f : Nat → Int32} {i x : Int32} {w2 : va_W} (hd : decode Y.2.1 pc = .ok (.iastore, 1)) (he : ws[q0]? = some (a, .inl (G.2.2.1 0, N, .inl f))) (hin : vp_in i N) (hw : ws.set q0 (a, .inl (G.2.2.1 0, N, .inl (upd f i.toNatClampNeg x))) = w2)
    (kk : nW G A y Y mc ms Q (pc + 1) lo st w2 k n) : nW G A y Y mc ms Q pc lo (.int x :: .int i :: .ref a :: st) ws k n := by
  intro p e s m args below meth c C H locs ls hP hD hS hl
  obtain ⟨hx, hb, hml, hr, hts, hown, hlk, hK, hF, hN0, hWo, hnm, hA⟩ := id C
  subst hw
  exact va_iast hx hb hK hP hD hS q0 0 he rfl hin hd (fun H1 locs1 hP1 hD1 hS1 => kk p e s m args below meth c C H1 locs1 ls hP1 hD1 hS1 hl)
theorem n_aast {q0 qk a v N : Nat} {fs : List Value} {f : Nat → Option Nat} {i : Int32} {w2 : va_W} (hd : decode Y.2.1 pc = .ok (.aastore, 1)) (he : ws[q0]? = some (a, .inl (G.2.2.1 3, N, .inr (.inr (.inr (.inr f)))))) (hv : ws[qk]? = some (v, .inr (1, fs))) (hin : vp_in i N) (hw : ws.set q0 (a, .inl (G.2.2.1 3, N, .inr (.inr (.inr (.inr (va_up f i.toNatClampNeg (some v))))))) = w2)
    (kk : nW G A y Y mc ms Q (pc + 1) lo st w2 k n) : nW G A y Y mc ms Q pc lo (.ref v :: .int i :: .ref a :: st) ws k n := by
  intro p e s m args below meth c C H locs ls hP hD hS hl
  obtain ⟨hx, hb, hml, hr, hts, hown, hlk, hK, hF, hN0, hWo, hnm, hA⟩ := id C
  subst hw
  exact va_astq (r := (RX1, TX1, 17)) hx hb hK hP hD hS q0 3 qk 1 he rfl hv rfl hin hd (fun H1 locs1 hP1 hD1 hS1 => kk p e s m args below meth c C H1 locs1 ls hP1 hD1 hS1 hl)
theorem n_vret (hd : decode Y.2.1 pc = .ok (.return_, 1)) (hr : Y.2.2.2.1 = none) (hk : k = mc) (hn : n = ms) (hq : Q ws) : nW G A y Y mc ms Q pc lo [] ws k n := by
  intro p e s m args below meth c C H locs ls hP hD hS hl
  obtain ⟨hx, hb, hml, hr0, hts, hown, hlk, hK, hF, hN0, hWo, hnm, hA⟩ := id C
  subst hk
  subst hn
  exact W.vret hx hb (hr0.trans hr) (fun t ht _ => ⟨⟨rfl, ws, hq, by rw [ht]; exact hP, hD⟩, hS.F ht⟩) hS.2.2 hd
end NR
