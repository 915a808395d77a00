/-! ===== new objects: calls ===== -/
theorem nAfter {G : zG} {p : Program} {l : Launch} {e : Env} {R : Room} {s : State} {m : MethodId} {args : Array Value} {below : List Frame} {meth : Method} {c : Code} {H : Heap} {locs : List Loc} {pc k n mc ms : Nat} {ls : Array Slot} {rest st0 : List Value} {a : Array Value} {A A1 : Nat → Prop} {Q : State → Prop} {Q1 : va_W → Prop}
    (hr : va_Run p l e R s m args below meth c H locs k n mc ms (F0 m pc ls st0) rest (nQc G A1 Q1 a) A1) (hS : va_S A s.heap H locs) (hA : ∀ q, A1 q → A q)
    (kk : ∀ (w1 : va_W) (H1 : Heap) (locs1 : List Loc), Q1 w1 → va_P G.2.2.2 zm_cls w1 H1 → va_D A1 w1 → (∀ q : Nat, q < H.size → ¬ A1 q → H1[q]? = H[q]?) → va_S A s.heap H1 locs1 → W p l e R s m args below meth c H1 locs1 (k + mc) (n + ms) Q (F0 m (pc + 3) ls rest)) : W p l e R s m args below meth c H locs k n Q (F0 m pc ls st0) := by
  intro T hT X
  obtain ⟨v, st₀, t, T', L, h0, X', hL, e1, e2, ⟨⟨hv, w1, hq, hP1, hD1⟩, hz, hk⟩, st⟩ := hr T hT X
  cases hv
  rw [h0] at hz hk
  obtain ⟨t2, a1, b1⟩ := kk w1 T'.heap (locs ++ L) hq (by rw [e1]; exact hP1) hD1 (fun q h1 h2 => by rw [e1]; exact hk q h1 h2)
    ⟨Nat.le_trans hS.1 (by rw [e1]; exact hz), fun q h1 h2 => by rw [e1, hk q (Nat.lt_of_lt_of_le h1 hS.1) (fun z => h2 (hA q z))]; exact hS.2.1 q h1 h2, fun q hq => by
      rcases List.mem_append.mp hq with h | h
      · exact hS.2.2 q h
      · exact hA _ (hL q h)⟩ T' rfl X'
  exact ⟨t2, st t2 a1, b1⟩
/-- what the tables say of a constructor -/
def nMk (y : MethodName) (Y : zY) (n : Nat) : Prop := zMx y Y n ∧ Y.2.2.2.1 = none ∧ y.name = "<init>" ∧ Cond.instanceMethod y ∈ zT
theorem nRoom {Y Y' : zY} {mc ms mc' ms' : Nat} (hdep : Y'.2.2.2.2 + 1 ≤ Y.2.2.2.2) (hL : Y'.2.2.1 ≤ 21) : (nR Y'.2.2.2.2 mc' ms').frames + 1 ≤ (nR Y.2.2.2.2 mc ms).frames ∧ 8 + (Y'.2.2.1 + 11) + (nR Y'.2.2.2.2 mc' ms').locals ≤ (nR Y.2.2.2.2 mc ms).locals := by
  refine ⟨hdep, ?_⟩
  show 8 + (Y'.2.2.1 + 11) + 40 * Y'.2.2.2.2 ≤ 40 * Y.2.2.2.2
  omega
theorem n_P_l {D : va_G} {wr wc : va_W} {H : Heap} (h : va_P D zm_cls (wr ++ wc) H) : va_P D zm_cls wr H := fun k q hk => h k q (by rw [List.getElem?_append_left (List.getElem?_eq_some_iff.mp hk).1]; exact hk)
theorem n_P_r {D : va_G} {wr wc : va_W} {H : Heap} (h : va_P D zm_cls (wr ++ wc) H) : va_P D zm_cls wc H := fun k q hk => h (wr.length + k) q (by rw [List.getElem?_append_right (by omega), show wr.length + k - wr.length = k by omega]; exact hk)
theorem n_D_l {A : Nat → Prop} {wr wc : va_W} (h : va_D A (wr ++ wc)) : va_D A wr := by
  have key : ∀ (k : Nat) (q : Nat × va_E), wr[k]? = some q → (wr ++ wc)[k]? = some q := fun k q hk => by rw [List.getElem?_append_left (List.getElem?_eq_some_iff.mp hk).1]; exact hk
  exact ⟨fun i j p q hi hj e => h.1 i j p q (key i p hi) (key j q hj) e, fun k q hk => h.2 k q (key k q hk)⟩
theorem n_D_r {A : Nat → Prop} {wr wc : va_W} (h : va_D A (wr ++ wc)) : va_D A wc := by
  have key : ∀ (k : Nat) (q : Nat × va_E), wc[k]? = some q → (wr ++ wc)[wr.length + k]? = some q := fun k q hk => by rw [List.getElem?_append_right (by omega), show wr.length + k - wr.length = k by omega]; exact hk
  exact ⟨fun i j p q hi hj e => by have := h.1 _ _ p q (key i p hi) (key j q hj) e; omega, fun k q hk => h.2 _ q (key k q hk)⟩
theorem n_D_x {A : Nat → Prop} {wr wc : va_W} (h : va_D A (wr ++ wc)) {i j : Nat} {p q : Nat × va_E} (hi : wr[i]? = some p) (hj : wc[j]? = some q) : p.1 ≠ q.1 := by
  intro e
  have hl := (List.getElem?_eq_some_iff.mp hi).1
  have := h.1 i (wr.length + j) p q (by rw [List.getElem?_append_left hl]; exact hi) (by rw [List.getElem?_append_right (by omega), show wr.length + j - wr.length = j by omega]; exact hj) e
  omega
/-- what a callee over wc brings back, beside what it didn't know -/
theorem n_join {A : Nat → Prop} {D : va_G} {wr wc w1 : va_W} {H H1 : Heap} (hP : va_P D zm_cls (wr ++ wc) H) (hD : va_D A (wr ++ wc)) (hk : ∀ q : Nat, q < H.size → ¬ va_A wc H.size q → H1[q]? = H[q]?) (hF : ∀ q, va_A wc H.size q → A q) (hP1 : va_P D zm_cls w1 H1) (hD1 : va_D (va_A wc H.size) w1) : va_P D zm_cls (wr ++ w1) H1 ∧ va_D A (wr ++ w1) := by
  have apart : ∀ (k : Nat) (q : Nat × va_E), wr[k]? = some q → q.1 < H.size ∧ ¬ va_A wc H.size q.1 := by
    intro k q hq
    have hl := (n_P_l hP k q hq).lt
    refine ⟨hl, fun h => ?_⟩
    rcases h with ⟨k2, e, h⟩ | h
    · exact n_D_x hD hq h rfl
    · omega
  refine ⟨va_P.app (fun k q hq => ?_) hP1, va_D.app (n_D_l hD) (hD1.weaken (fun k q _ h => hF q.1 h)) (fun i j x y hx hy hxy => ?_)⟩
  · obtain ⟨g1, g2⟩ := apart k q hq
    exact (n_P_l hP k q hq).kept (hk q.1 g1 g2)
  · exact (apart i x hx).2 (by rw [hxy]; exact hD1.2 j y hy)
section NC
variable {G : zG} {A : Nat → Prop} {y : MethodName} {Y : zY} {mc ms : Nat} {Q : va_W → Prop} {pc : Nat} {lo : List (Nat × Value)} {st : List Value} {ws : va_W} {k n : Nat}
theorem n_ctor {y' : MethodName} {Y' : zY} {index a mc' ms' : Nat} {wr wc : va_W} {Q' : va_W → Prop} (hd : decode Y.2.1 pc = .ok (.invokespecial index, 3)) (hm : nMk y' Y' 0) (hM : nCall G y' Y' [.ref a] wc mc' ms' Q') (hlink : Cond.methodLink Y.1 index y' ∈ zT ∨ ∃ host, Cond.methodLinkNest Y.1 index y' host ∈ zTN) (hdep : Y'.2.2.2.2 + 1 ≤ Y.2.2.2.2) (hw : ws = wr ++ wc) (hst : (st.map fun v => v.category).sum ≤ 8) (hkc : k + mc' ≤ mc) (hns : n + ms' ≤ ms)
    (kk : ∀ w1 : va_W, Q' w1 → nW G A y Y mc ms Q (pc + 3) lo st (wr ++ w1) (k + mc') (n + ms')) : nW G A y Y mc ms Q pc lo (.ref a :: st) ws k n := by
  intro p e s m args below meth c C H locs ls hP hD hS hl
  obtain ⟨hx, hb, hml, hr, hts, hown, hlk, hK, hF, hN0, hWo, hnm, hA⟩ := id C
  obtain ⟨⟨i1, i2, ⟨i3, i4, i5⟩, i6⟩, i7, i8, i9⟩ := hm
  subst hw
  have hAA : ∀ q, va_A wc H.size q → A q := by
    intro q hq
    rcases hq with ⟨k, e, hk⟩ | hq
    · exact (n_D_r hD).2 k _ hk
    · exact hA q (Nat.le_trans hS.1 hq)
  have hM' : Met G.1 y' (zWs y' Y') (nR Y'.2.2.2.2 mc' ms') (va_Pc [.ref a] (nPre G wc H.size)) (nQc G (va_A wc H.size) Q') mc' ms' (va_A wc H.size) := hM H.size
  have hG : GoodIn zT (zWs y' Y') := zGood y' Y' i2
  have hww : zWs y' Y' = Cond.code y' Y'.2.1 Y'.2.2.1 none :: zT := by unfold zWs; rw [i7]
  have hpre : PreS s H (va_Pc [.ref a] (nPre G wc H.size)) (.ref a :: []) := ⟨nPre_blind, fun U hU hW => ⟨rfl, nPre_now C (n_P_r hP) (n_D_r hD) hS U hU hW⟩⟩
  have hst' : 2 * (F0 m pc ls (.ref a :: st)).monitorRoom + (st.map fun v => v.category).sum ≤ 8 := lv_room hst
  have fin : va_Run p G.1 e (nR Y.2.2.2.2 mc ms) s m args below meth c H locs k n mc' ms' (F0 m pc ls (.ref a :: st)) st (nQc G (va_A wc H.size) Q' (Value.ref a :: []).toArray) (va_A wc H.size) := by
    rcases hlink with hlink | ⟨host, hlink⟩
    · exact va_runI (As := []) (rest := st) (nL := Y.2.2.1) ⟨hx, hb, hml, hown, hts⟩ hM' (cwI 0 hts hG hww rfl rfl (hts _ i1) (hts _ hlink) (hts _ i9) i8 ⟨i3, i4, i5⟩ (nRoom hdep i6)) hpre rfl rfl hl.1 rfl hst' hd ⟨hkc, hns⟩
    · exact va_runIN (host := host) (As := []) (rest := st) (nL := Y.2.2.1) ⟨hx, hb, hml, hown, hts⟩ hM' ⟨va_cnB 0 hts hG hww rfl rfl (hN0 _ hlink) (hts _ i1) ⟨i3, i4, i5⟩ (nRoom hdep i6), i8, hts _ i9⟩ hpre rfl rfl hl.1 rfl hst' hd ⟨hkc, hns⟩
  refine nAfter fin hS hAA (fun w1 H1 locs1 hq hP1 hD1 hk1 hS1 => ?_)
  obtain ⟨hP2, hD2⟩ := n_join hP hD hk1 hAA hP1 hD1
  exact kk w1 hq p e s m args below meth c C H1 locs1 ls hP2 hD2 hS1 hl
/-- Arrays.fill over an array somewhere in the world -/
theorem n_fill {index q0 a N : Nat} {f : Nat → Int32} {v : Int32} {w2 : va_W} (hd : decode Y.2.1 pc = .ok (.invokestatic index, 3)) {Y' : zY} {y' : MethodName} (hm : zMS y' Y' 2) (hv : Y'.2.2.2.1 = none) (hM : nCall G y' Y' [.ref a, .int v] [(a, .inl (G.2.2.1 0, N, .inl f))] 0 0 (fun w => w = [(a, .inl (G.2.2.1 0, N, .inl (fun _ => v)))])) (hlink : Cond.methodLink Y.1 index y' ∈ zT) (hdep : Y'.2.2.2.2 + 1 ≤ Y.2.2.2.2) (he : ws[q0]? = some (a, .inl (G.2.2.1 0, N, .inl f))) (hw : ws.set q0 (a, .inl (G.2.2.1 0, N, .inl (fun _ => v))) = w2) (hst : (st.map fun v => v.category).sum ≤ 8) (hkc : k ≤ mc) (hns : n ≤ ms)
    (kk : nW G A y Y mc ms Q (pc + 3) lo st w2 k n) : nW G A y Y mc ms Q pc lo (.int v :: .ref a :: st) ws k n := by
  intro p e s m args below meth c C H locs ls hP hD hS hl
  obtain ⟨hx, hb, hml, hr, hts, hown, hlk, hK, hF, hN0, hWo, hnm, hA⟩ := id C
  obtain ⟨⟨i1, i2, ⟨i3, i4, i5⟩, i6⟩, i7⟩ := hm
  subst hw
  have hPc : va_P G.2.2.2 zm_cls [(a, .inl (G.2.2.1 0, N, .inl f))] H := fun j q hj => by
    have hj0 : j = 0 := by have := (List.getElem?_eq_some_iff.mp hj).1; simpa using this
    subst hj0
    exact hP q0 q (he.trans hj)
  have hDc : va_D A ([(a, .inl (G.2.2.1 0, N, .inl f))] : va_W) := ⟨fun i j p q hi hj _ => by
    have h1 := (List.getElem?_eq_some_iff.mp hi).1
    have h2 := (List.getElem?_eq_some_iff.mp hj).1
    have h1 : i < 1 := h1
    have h2 : j < 1 := h2
    omega, fun j q hj => by
    have hj0 : j = 0 := by have := (List.getElem?_eq_some_iff.mp hj).1; simpa using this
    subst hj0
    exact hD.2 q0 q (he.trans hj)⟩
  have hAA : ∀ q, va_A ([(a, .inl (G.2.2.1 0, N, .inl f))] : va_W) H.size q → A q := by
    intro q hq
    rcases hq with ⟨k, e, hk⟩ | hq
    · exact hDc.2 k _ hk
    · exact hA q (Nat.le_trans hS.1 hq)
  have fin : va_Run p G.1 e (nR Y.2.2.2.2 mc ms) s m args below meth c H locs k n 0 0 (F0 m pc ls (.int v :: .ref a :: st)) st (nQc G (va_A ([(a, .inl (G.2.2.1 0, N, .inl f))] : va_W) H.size) (fun w => w = [(a, .inl (G.2.2.1 0, N, .inl (fun _ => v)))]) ([.ref a, .int v] : List Value).toArray) (va_A ([(a, .inl (G.2.2.1 0, N, .inl f))] : va_W) H.size) :=
    va_runS (As := [.ref a, .int v]) (rest := st) (nL := Y.2.2.1) ⟨hx, hb, hml, hown, hts⟩ (hM H.size) ⟨callB_of 2 hts (zGood y' Y' i2) rfl rfl rfl (hts _ i1) (hts _ hlink) ⟨i3, i4, i5⟩ (nRoom hdep i6), hts _ i7⟩ ⟨nPre_blind, fun U hU hW => ⟨rfl, nPre_now C hPc hDc hS U hU hW⟩⟩ rfl rfl hl.1 rfl (lv_room hst) hd ⟨hkc, hns⟩
  refine nAfter fin hS hAA (fun w1 H1 locs1 hq hP1 hD1 hk1 hS1 => ?_)
  subst hq
  have hlt := (hP q0 _ he).lt
  refine kk p e s m args below meth c C H1 locs1 ls (fun j q hj => ?_) (hD.set he) hS1 hl
  by_cases hjq : j = q0
  · subst hjq
    rw [List.getElem?_set_self (List.getElem?_eq_some_iff.mp he).1] at hj
    cases hj
    exact hP1 0 _ rfl
  · rw [List.getElem?_set_ne (Ne.symm hjq)] at hj
    refine (hP j q hj).kept (hk1 q.1 (hP j q hj).lt (fun z => ?_))
    rcases z with ⟨i, e1, hi⟩ | z
    · have hi0 : i = 0 := by have := (List.getElem?_eq_some_iff.mp hi).1; simpa using this
      subst hi0
      have e2 : q.1 = a := by
        have := Option.some.inj hi
        exact (congrArg Prod.fst this).symm
      exact hjq (hD.1 j q0 q _ hj he e2)
    · have := (hP j q hj).lt
      omega
/-- the static array of the first settings, read -/
theorem n_gets {index : Nat} {host : String} (hd : decode Y.2.1 pc = .ok (.getstatic index, 3)) (hlink : Cond.fieldLinkNest Y.1 index RX4 "FIRST_SETTINGS" "[I" host ∈ zTN) (kk : nW G A y Y mc ms Q (pc + 3) lo (.ref (G.2.1 1003) :: st) ws k n) : nW G A y Y mc ms Q pc lo st ws k n := by
  intro p e s m args below meth c C H locs ls hP hD hS hl
  obtain ⟨hx, hb, hml, hr, hts, hown, hlk, hK, hF, hN0, hWo, hnm, hA⟩ := id C
  exact va_getsN hx hb hF.1 hS hown ((hN0 _ hlink).use rfl) (fun _ h => h) hd (kk p e s m args below meth c C H locs ls hP hD hS hl)
theorem n_cast {index q0 a : Nat} {x : vp_A} (hd : decode Y.2.1 pc = .ok (.checkcast index, 3)) (hlink : Cond.classLink Y.1 index "[I" ∈ zT) (he : ws[q0]? = some (a, .inl (G.2.2.1 0, x))) (kk : nW G A y Y mc ms Q (pc + 3) lo (.ref a :: st) ws k n) : nW G A y Y mc ms Q pc lo (.ref a :: st) ws k n := by
  intro p e s m args below meth c C H locs ls hP hD hS hl
  obtain ⟨hx, hb, hml, hr, hts, hown, hlk, hK, hF, hN0, hWo, hnm, hA⟩ := id C
  exact va_castA hx hb hown (hts _ hlink) hP q0 he (hK.2 0 (G.2.2.1 0, .int) rfl).2 hd (kk p e s m args below meth c C H locs ls hP hD hS hl)
/-- a copy of the first settings -/
theorem n_clone {index : Nat} (hd : decode Y.2.1 pc = .ok (.invokevirtual index, 3)) (hlink : Cond.methodLink Y.1 index ⟨"[I", "clone", "()Ljava/lang/Object;"⟩ ∈ zT) (hsame : Cond.sameMethod "[I" "java/lang/Object" "clone" "()Ljava/lang/Object;" ∈ zT) (hnat : Cond.native ⟨"java/lang/Object", "clone", "()Ljava/lang/Object;"⟩ ∈ zT) (hinst : Cond.instanceMethod ⟨"java/lang/Object", "clone", "()Ljava/lang/Object;"⟩ ∈ zT) (hsel : Cond.selects "[I" ⟨"[I", "clone", "()Ljava/lang/Object;"⟩ ⟨"java/lang/Object", "clone", "()Ljava/lang/Object;"⟩ ∈ zT)
    (hdep : 1 ≤ Y.2.2.2.2) (hst : (st.map fun v => v.category).sum ≤ 8) (hkc : k + 1 ≤ mc) (hns : n + 4 ≤ ms) (kk : ∀ q : Nat, nW G A y Y mc ms Q (pc + 3) lo (.ref q :: st) (ws ++ [(q, .inl (G.2.2.1 0, 4, .inl nFst))]) (k + 1) (n + 4)) : nW G A y Y mc ms Q pc lo (.ref (G.2.1 1003) :: st) ws k n := by
  intro p e s m args below meth c C H locs ls hP hD hS hl
  obtain ⟨hx, hb, hml, hr, hts, hown, hlk, hK, hF, hN0, hWo, hnm, hA⟩ := id C
  obtain ⟨hZ, hnA, cell, f1, f2, f3, f4, f5⟩ := hF.kept (H1 := H) (fun a h1 h2 => hS.2.1 a h1 h2)
  obtain ⟨c0, t0, g1, g2, g3⟩ := Cond.castable_spec (va_Nw.use (A := args) rfl hWo.2.1)
  have hcI : s.vm.findClass "[I" = some (G.2.2.1 0) := (hK.2 0 (G.2.2.1 0, .int) rfl).2
  cases hcI.symm.trans g1
  intro T hT X
  have hsz : cell.slots.size = 4 := by rw [f5]; exact arrV_size _ _ _
  obtain ⟨-, kA, hkA, comp, hkind⟩ := State.isArrayOf_alike X.warmed.alike ((hK.2 0 (G.2.2.1 0, .int) rfl).1 0 (fun _ => .null))
  obtain ⟨-, kS, hkS, compS, hkindS⟩ := (hK.2 0 (G.2.2.1 0, .int) rfl).1 0 (fun _ => .null)
  obtain ⟨vm', X', stp⟩ := X.cloneArray hx hown (hts _ hlink) (hts _ hsame) (hts _ hnat) (hts _ hinst) (hts _ hsel) (a := G.2.1 1003) (cell := cell) (by rw [hT]; exact f1) f2 f3 (by rw [f4]; exact hcI) g2 (by rw [f4]; exact g3)
    (fun i v hv => by
      rw [f4]
      rw [f5] at hv
      have hk' : T.vm.classes[G.2.2.1 0]? = some kA := hkA
      have hfit : fits .int v = true := by
        by_cases hi : i < 4
        · have h1 : (vp_cell (G.2.2.1 0) (4, .inl nFst)).slots[i]? = some (.int (nFst i)) := arrV_read _ _ hi
          rw [h1] at hv
          cases hv
          rfl
        · have h2 : (vp_cell (G.2.2.1 0) (4, .inl nFst)).slots[i]? = none := by
            apply Array.getElem?_eq_none
            rw [show (vp_cell (G.2.2.1 0) (4, .inl nFst)).slots.size = 4 from arrV_size _ _ _]
            omega
          rw [h2] at hv
          cases hv
      simpa [State.fitsSlot, State.slotType?, hk', hkind] using hfit)
    (g := F0 m pc ls (.ref (G.2.1 1003) :: st)) rfl (by rw [hml]; exact hl.1) rfl (by rw [hb]; exact hd) hdep (by show 2 * 0 + _ + 14 ≤ 40 * Y.2.2.2.2; omega) hkc (by rw [hsz]; exact hns) (hloader := by rw [f4]; exact Vm.clonesLoader_of_array hkS hkindS)
  have hcellE : ({ cls := cell.cls, slots := cell.slots } : Cell) = vp_cell (G.2.2.1 0) (4, .inl nFst) := by
    rw [f4, f5]
    rfl
  rw [hcellE, hsz] at X'
  rw [hcellE] at stp
  generalize hH1 : H.push (vp_cell (G.2.2.1 0) (4, .inl nFst)) = H1
  have z1 : H1.size = H.size + 1 := by rw [← hH1, Array.size_push]
  have e1 : H1[H.size]? = some (vp_cell (G.2.2.1 0) (4, .inl nFst)) := by rw [← hH1, Array.getElem?_push_size]
  have o1 : ∀ q : Nat, q < H.size → H1[q]? = H[q]? := fun q hq => by rw [← hH1, Array.getElem?_push, if_neg (Nat.ne_of_lt hq)]
  have hk : ∀ (k : Nat) (y : Nat × va_E), ws[k]? = some y → H1[y.1]? = H[y.1]? := fun k y hy => o1 y.1 ((hP k y hy).lt)
  obtain ⟨t, b1, b2⟩ := kk H.size p e s m args below meth c C H1 locs ls ((hP.kept hk).app (fun j q hj => by
      have hj0 : j = 0 := by have := (List.getElem?_eq_some_iff.mp hj).1; simpa using this
      subst hj0
      cases hj
      exact e1)) (hD.push hP rfl (hA _ hS.1)) ⟨Nat.le_trans hS.1 (by omega), fun q h1 h2 => (o1 q (Nat.lt_of_lt_of_le h1 hS.1)).trans (hS.2.1 q h1 h2), hS.2.2⟩ hl ((T.setVm vm').pushCell (vp_cell (G.2.2.1 0) (4, .inl nFst))) (by rw [← hH1, ← hT]; rfl) X'
  rw [hT] at stp
  exact ⟨t, stp t b1, b2⟩
end NC
