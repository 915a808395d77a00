/-! ===== fields ===== -/
def zm_cR (ci : Nat) : vw_C := match ci with
  | 0 => (RX0, TX0, 3) | 1 => (RX1, TX1, 17) | 2 => (RX2, TX2, 8) | 3 => (RX3, TX3, 2) | _ => (RX4, TX4, 9)
def zm_cT (ci : Nat) : Nat → FieldType := match ci with
  | 0 => tyX0 | 1 => tyX1 | 2 => tyX2 | 3 => tyX3 | _ => tyX4
theorem zm_in0 : ∀ w ∈ u_ws RX0 TX0 3, w ∈ lw_tbl := by decide +kernel
theorem zm_in1 : ∀ w ∈ u_ws RX1 TX1 17, w ∈ lw_tbl := by decide +kernel
theorem zm_in2 : ∀ w ∈ u_ws RX2 TX2 8, w ∈ lw_tbl := by decide +kernel
theorem zm_in3 : ∀ w ∈ u_ws RX3 TX3 2, w ∈ lw_tbl := by decide +kernel
theorem zm_in4 : ∀ w ∈ u_ws RX4 TX4 9, w ∈ lw_tbl := by decide +kernel
theorem zm_inT {C : String} {T : u_T} {N : Nat} (h : ∀ w ∈ u_ws C T N, w ∈ lw_tbl) : ∀ w ∈ u_ws C T N, w ∈ zT := by
  intro w hw
  refine List.mem_filter.mpr ⟨h w hw, ?_⟩
  obtain ⟨k, -, rfl⟩ := List.mem_map.mp hw
  unfold u_lay
  split <;> rfl
theorem zm_cOk {ci : Nat} (h : ci < 5) : zm_cls[ci]? = some (zm_cR ci) ∧ (∀ w ∈ u_ws (zm_cR ci).1 (zm_cR ci).2.1 (zm_cR ci).2.2, w ∈ zT) ∧ (∀ k, k < (zm_cR ci).2.2 → parseFieldDescriptor ((zm_cR ci).2.1 k).2.2.1 = some (zm_cT ci k)) ∧ (∀ a, a < (zm_cR ci).2.2 → ∀ b, b < (zm_cR ci).2.2 → a ≠ b → ((zm_cR ci).2.1 a).2.1 ≠ ((zm_cR ci).2.1 b).2.1) := by
  match ci, h with
  | 0, _ => exact ⟨rfl, zm_inT zm_in0, tyX0_ok, nmX0⟩
  | 1, _ => exact ⟨rfl, zm_inT zm_in1, tyX1_ok, nmX1⟩
  | 2, _ => exact ⟨rfl, zm_inT zm_in2, tyX2_ok, nmX2⟩
  | 3, _ => exact ⟨rfl, zm_inT zm_in3, tyX3_ok, nmX3⟩
  | 4, _ => exact ⟨rfl, zm_inT zm_in4, tyX4_ok, nmX4⟩
/-- a place of the constants of 'own' names the field k of the class ci -/
def zL (own : String) (index ci k : Nat) : Prop := ci < 5 ∧ k < (zm_cR ci).2.2 ∧ ((zm_cR ci).2.1 k).1 = (zm_cR ci).1 ∧
  (Cond.fieldLink own index (zm_cR ci).1 ((zm_cR ci).2.1 k).2.1 ((zm_cR ci).2.1 k).2.2.1 ∈ zT ∨ ∃ host : String, Cond.fieldLinkNest own index (zm_cR ci).1 ((zm_cR ci).2.1 k).2.1 ((zm_cR ci).2.1 k).2.2.1 host ∈ zTN)
section ZF
variable {G : zG} {Y : zY} {Q : Option zV → zM → Prop} {pc : Nat} {lo : List (Nat × zV)} {st : List zV} {M : zM}
theorem z_getI {a kI : Int} {ci k index : Nat} {fs : List (Option Int)} (hd : decode Y.2.1 pc = .ok (.getfield index, 3)) (hL : zL Y.1 index ci k) (ha : 0 ≤ a ∧ a < 187) (hs : zm_sh a = .inr (.inl (ci, fs))) (hf : fs[k]? = some none) (hki : (k : Int) = kI)
    (kk : zW G Y Q (pc + 3) lo (.inl (M a kI) :: st) M) : zW G Y Q pc lo (.inr (some a) :: st) M := by
  subst hki
  intro p e s m args below meth c C H locs ls hP hS hl
  obtain ⟨hx, hb, hml, hr, hts, hown, hlk, hK, hSt, hJ, hN⟩ := id C
  obtain ⟨h1, h2, h3, h4⟩ := hL
  obtain ⟨c1, c2, c3, c4⟩ := zm_cOk h1
  have hv : (zm_fs G M a 0 fs)[k]? = some (.int (Int32.ofInt (M a (k : Int)))) := by
    have := zm_fs_get G M a 0 k fs none hf
    rw [Nat.zero_add] at this
    exact this
  rcases h4 with h4 | ⟨host, h4⟩
  · exact va_get hx hb hts c2 hown hK hP a.toNat (zm_W_obj G M ha hs) c1 k h2 (hts _ h4) (fun x q => by rw [← h3]; exact q) hv hd (kk p e s m args below meth c C H locs ls hP hS hl)
  · exact va_getN hx hb hts c2 hown hK hP a.toNat (zm_W_obj G M ha hs) c1 k h2 ((hN _ h4).use rfl) (fun x q => by rw [← h3]; exact q) hv hd (kk p e s m args below meth c C H locs ls hP hS hl)
theorem z_getR {a o b : Int} {ci k index : Nat} {fs : List (Option Int)} (hd : decode Y.2.1 pc = .ok (.getfield index, 3)) (hL : zL Y.1 index ci k) (ha : 0 ≤ a ∧ a < 187) (hs : zm_sh a = .inr (.inl (ci, fs))) (hf : fs[k]? = some (some o)) (hb' : a + o = b)
    (kk : zW G Y Q (pc + 3) lo (.inr (some b) :: st) M) : zW G Y Q pc lo (.inr (some a) :: st) M := by
  subst hb'
  intro p e s m args below meth c C H locs ls hP hS hl
  obtain ⟨hx, hb, hml, hr, hts, hown, hlk, hK, hSt, hJ, hN⟩ := id C
  obtain ⟨h1, h2, h3, h4⟩ := hL
  obtain ⟨c1, c2, c3, c4⟩ := zm_cOk h1
  have hv : (zm_fs G M a 0 fs)[k]? = some (.ref (G.2.1 (a + o))) := zm_fs_get G M a 0 k fs (some o) hf
  rcases h4 with h4 | ⟨host, h4⟩
  · exact va_get hx hb hts c2 hown hK hP a.toNat (zm_W_obj G M ha hs) c1 k h2 (hts _ h4) (fun x q => by rw [← h3]; exact q) hv hd (kk p e s m args below meth c C H locs ls hP hS hl)
  · exact va_getN hx hb hts c2 hown hK hP a.toNat (zm_W_obj G M ha hs) c1 k h2 ((hN _ h4).use rfl) (fun x q => by rw [← h3]; exact q) hv hd (kk p e s m args below meth c C H locs ls hP hS hl)
theorem zm_set_obj (G : zG) (M : zM) {a x : Int} {ci k : Nat} {fs : List (Option Int)} (ha : 0 ≤ a ∧ a < 187) (hs : zm_sh a = .inr (.inl (ci, fs))) (hf : fs[k]? = some none) : (zm_W G M).set a.toNat (G.2.1 a, .inr (ci, (zm_fs G M a 0 fs).set k (.int (Int32.ofInt x)))) = zm_W G (zm_up M a (k : Int) x) := by
  refine zm_W_set G M _ ha ?_ (fun k hk => zm_up_off hk)
  rw [hs]
  show (Sum.inr (ci, zm_fs G (zm_up M a (k : Int) x) a 0 fs) : va_E) = _
  rw [zm_fs_set G M a x 0 k fs hf, Nat.zero_add]
/-- what a field of numbers takes -/
def zTk (ty : FieldType) (x : Int) : Prop := ty = .int ∨ (ty = .boolean ∧ (x = 0 ∨ x = 1))
theorem zTk_ok {ty : FieldType} {x : Int} (h : zTk ty x) : narrow ty (.int (Int32.ofInt x)) = .int (Int32.ofInt x) ∧ fits ty (.int (Int32.ofInt x)) = true := by
  rcases h with rfl | ⟨rfl, rfl | rfl⟩
  · exact ⟨rfl, rfl⟩
  · exact ⟨rfl, rfl⟩
  · exact ⟨rfl, rfl⟩
theorem z_put {a x kI : Int} {ci k index : Nat} {fs : List (Option Int)} (hd : decode Y.2.1 pc = .ok (.putfield index, 3)) (hL : zL Y.1 index ci k) (hfin : ((zm_cR ci).2.1 k).2.2.2 = false) (hty : zTk (zm_cT ci k) x) (ha : 0 ≤ a ∧ a < 187) (hs : zm_sh a = .inr (.inl (ci, fs))) (hf : fs[k]? = some none) (hki : (k : Int) = kI)
    (kk : zW G Y Q (pc + 3) lo st (zm_up M a kI x)) : zW G Y Q pc lo (.inl x :: .inr (some a) :: st) M := by
  subst hki
  intro p e s m args below meth c C H locs ls hP hS hl
  obtain ⟨hx, hb, hml, hr, hts, hown, hlk, hK, hSt, hJ, hN⟩ := id C
  obtain ⟨h1, h2, h3, h4⟩ := hL
  obtain ⟨c1, c2, c3, c4⟩ := zm_cOk h1
  obtain ⟨t1, t2⟩ := zTk_ok hty
  have hlen : k < (zm_fs G M a 0 fs).length := by rw [zm_fs_len]; exact (List.getElem?_eq_some_iff.mp hf).1
  rcases h4 with h4 | ⟨host, h4⟩
  · refine va_put (v := .int (Int32.ofInt x)) hx hb hts c2 (zm_cT ci) c3 c4 hown hK hP (zm_D hJ M) hS a.toNat (zm_W_obj G M ha hs) c1 k h2 (hts _ h4) (fun x q => by rw [← h3]; exact q) hfin (c3 k h2) t1 t2 hlen hd (fun H1 locs1 hP1 hD1 hS1 => ?_)
    rw [zm_set_obj G M ha hs hf] at hP1
    exact kk p e s m args below meth c C H1 locs1 ls hP1 hS1 hl
  · refine va_putN (v := .int (Int32.ofInt x)) hx hb hts c2 (zm_cT ci) c3 c4 hown hK hP (zm_D hJ M) hS a.toNat (zm_W_obj G M ha hs) c1 k h2 ((hN _ h4).use rfl) (fun x q => by rw [← h3]; exact q) hfin (c3 k h2) t1 t2 hlen hd (fun H1 locs1 hP1 hD1 hS1 => ?_)
    rw [zm_set_obj G M ha hs hf] at hP1
    exact kk p e s m args below meth c C H1 locs1 ls hP1 hS1 hl
/-! ===== the ends of a method ===== -/
theorem zm_end {s t : State} {H : Heap} {locs : List Loc} {args : Array Value} {v : Option zV} (hP : zm_GP G M H) (hS : va_S (zm_A G) s.heap H locs) (hq : Q v M) (ht : t.heap = H) : zm_Qc G Q args s (.returned (v.map (zc G))) t :=
  ⟨⟨v, M, rfl, hq, by rw [ht]; exact hP⟩, hS.F ht⟩
theorem z_iret {x : Int} (hd : decode Y.2.1 pc = .ok (.ireturn, 1)) (hr : Y.2.2.2.1 = some .int) (hq : Q (some (.inl x)) M) : zW G Y Q pc lo [.inl x] M := by
  intro p e s m args below meth c C H locs ls hP hS hl
  obtain ⟨hx, hb, hml, hr0, hts, hown, hlk, hK, hSt, hJ, hN⟩ := id C
  exact W.iret (v := Int32.ofInt x) hx hb (hr0.trans hr) (fun t ht _ => zm_end hP hS hq ht) hS.2.2 hd
theorem z_zret {x : Int} (hd : decode Y.2.1 pc = .ok (.ireturn, 1)) (hr : Y.2.2.2.1 = some .boolean) (hv : x = 0 ∨ x = 1) (hq : Q (some (.inl x)) M) : zW G Y Q pc lo [.inl x] M := by
  intro p e s m args below meth c C H locs ls hP hS hl
  obtain ⟨hx, hb, hml, hr0, hts, hown, hlk, hK, hSt, hJ, hN⟩ := id C
  exact W.zret (v := Int32.ofInt x) (ty := .boolean) hx hb (hr0.trans hr) (zTk_ok (Or.inr ⟨rfl, hv⟩)).1 (fun t ht _ => zm_end hP hS hq ht) hS.2.2 hd
theorem z_vret (hd : decode Y.2.1 pc = .ok (.return_, 1)) (hr : Y.2.2.2.1 = none) (hq : Q none M) : zW G Y Q pc lo [] M := by
  intro p e s m args below meth c C H locs ls hP hS hl
  obtain ⟨hx, hb, hml, hr0, hts, hown, hlk, hK, hSt, hJ, hN⟩ := id C
  exact W.vret hx hb (hr0.trans hr) (fun t ht _ => zm_end (v := none) hP hS hq ht) hS.2.2 hd
theorem z_aret {x : Option Int} {nm : String} (hd : decode Y.2.1 pc = .ok (.areturn, 1)) (hr : Y.2.2.2.1 = some (.object nm)) (hq : Q (some (.inr x)) M) : zW G Y Q pc lo [.inr x] M := by
  intro p e s m args below meth c C H locs ls hP hS hl
  obtain ⟨hx, hb, hml, hr0, hts, hown, hlk, hK, hSt, hJ, hN⟩ := id C
  refine W.aret (v := zc G (.inr x)) (rt := .object nm) hx hb (hr0.trans hr) (Or.inl ⟨nm, rfl⟩) ?_ (fun t ht _ => zm_end hP hS hq ht) hS.2.2 hd
  cases x with
  | none => exact Or.inl rfl
  | some k => exact Or.inr ⟨_, rfl⟩
end ZF
/-! ===== contracts and calls ===== -/
def zWs (y : MethodName) (Y : zY) : List Cond := .code y Y.2.1 Y.2.2.1 Y.2.2.2.1 :: zT
def zPre (G : zG) (M : zM) (U : State) : Prop := zm_GP G M U.heap ∧ va_K G.2.2.2 zm_cls (zm_tys G) U ∧ zm_St G (zm_A G) U U.heap ∧ zm_J G ∧ zNs U
/-- a method's contract: begun with these values over M, it comes to its end with Q -/
def zCall (G : zG) (y : MethodName) (Y : zY) (av : List zV) (M : zM) (Q : Option zV → zM → Prop) : Prop :=
  Met G.1 y (zWs y Y) (zm_rm Y.2.2.2.2) (va_Pc (zm_sk G av) (zPre G M)) (zm_Qc G Q) 0 0 (zm_A G)
def zar : Nat → List zV → List (Nat × zV)
  | _, [] => []
  | i, v :: r => (i, v) :: zar (i + 1) r
theorem zar_lo (G : zG) : ∀ (i : Nat) (av : List zV), lv_args i (zm_sk G av) = zm_lo G (zar i av)
  | _, [] => rfl
  | i, v :: r => by
    show (i, zc G v) :: lv_args (if (zc G v).category = 2 then i + 2 else i + 1) (zm_sk G r) = (i, zc G v) :: zm_lo G (zar (i + 1) r)
    rw [zc_cat, if_neg (by decide), zar_lo G (i + 1) r]
theorem zsl_len (G : zG) : ∀ av : List zV, (lg_sl (zm_sk G av)).length = av.length
  | [] => rfl
  | v :: r => by
    have h := zsl_len G r
    show ((if (zc G v).category = 2 then [Slot.val (zc G v), .second] else [.val (zc G v)]) ++ lg_sl (zm_sk G r)).length = _
    rw [zc_cat, List.length_append, h]
    simp [Nat.add_comm]
theorem zEnter {G : zG} {y : MethodName} {Y : zY} {av : List zV} {M : zM} {Q : Option zV → zM → Prop} (hp : plainName y.cls = true) (hY : Y.1 = y.cls) (hn : av.length ≤ Y.2.2.1) (k : zW G Y Q 0 (zar 0 av) [] M) : zCall G y Y av M Q := by
  refine Met.ofW (cc := Y.2.1) (maxL := Y.2.2.1) (ret := Y.2.2.2.1) (ws' := zT) hp rfl ?_
  intro p e s m args below meth c s₁ B hml hv
  obtain ⟨rfl, hP, hK, hSt, hJ, hN⟩ := hv
  have hts : ∀ w ∈ zT, w.before (zm_sk G av).toArray s = true := fun w hw => atoms_spec (ws := zWs y Y) B.pre w (List.mem_cons_of_mem _ hw)
  have hown : s.vm.findClass Y.1 = some m.cls := by rw [hY]; exact findClass_of_methodNamed B.named
  have hl := lv_entry (zm_sk G av) (n := Y.2.2.1) (by rw [zsl_len]; exact hn)
  rw [zar_lo] at hl
  rw [lg_entry_eq]
  exact k p e s m _ below meth c ⟨B.exec, B.bytes, hml, B.returns, hts, hown, B.notSynchronized, hK, hSt, hJ, hN⟩ s.heap [] _ hP va_S.rf hl
theorem zPre_blind {G : zG} {M : zM} {av : List Value} : FrameBlind (va_Pc av (zPre G M)) := by
  intro a U g mk h
  obtain ⟨h1, hP, hK, hSt, hJ, hN⟩ := h
  exact ⟨h1, hP, va_K.moved (u := U) (U := U.calling g mk a) (Vm.Alike.refl U.vm) hK, zm_St.moved (u := U) (U := U.calling g mk a) (Vm.Alike.refl U.vm) hSt, hJ, zNs.same (u := U) (U := U.calling g mk a) (Eq.refl U.vm) hN⟩
theorem zPre_now {G : zG} {Y : zY} {p : Program} {s : State} {m : MethodId} {args : Array Value} {meth : Method} {c : Code} {M : zM} {H : Heap} {locs : List Loc} (C : zm_Cx G Y p s m args meth c) (hP : zm_GP G M H) (hS : va_S (zm_A G) s.heap H locs) (U : State) (hU : U.heap = H) (hW : s.WarmedH U.vm) : zPre G M U := by
  obtain ⟨hx, hb, hml, hr, hts, hown, hlk, hK, hSt, hJ, hN⟩ := C
  refine ⟨by rw [hU]; exact hP, va_K.moved hW.alike hK, ?_, hJ, hN.warm hW⟩
  rw [hU]
  exact zm_St.moved hW.alike (hSt.kept (fun a h1 h2 => hS.2.1 a h1 h2))
theorem zGood (y : MethodName) (Y : zY) (hc : Cond.code y Y.2.1 Y.2.2.1 Y.2.2.2.1 ∈ zT) : GoodIn zT (zWs y Y) := by
  intro w hw
  have hm : w ∈ zT := by
    rcases List.mem_cons.mp hw with h | h
    · rw [h]; exact hc
    · exact h
  exact ⟨hm, good_of_word (List.mem_filter.mp hm).2⟩
theorem zAfter {G : zG} {p : Program} {l : Launch} {e : Env} {R : Room} {s : State} {m : MethodId} {args : Array Value} {below : List Frame} {meth : Method} {c : Code} {H : Heap} {locs : List Loc} {pc : Nat} {ls : Array Slot} {rest st0 : List Value} {a : Array Value} {Q : State → Prop} {Q1 : Option zV → zM → Prop}
    (hr : va_Run p l e R s m args below meth c H locs 0 0 0 0 (F0 m pc ls st0) rest (zm_Qc G Q1 a) (zm_A G)) (hS : va_S (zm_A G) s.heap H locs)
    (kk : ∀ (v : Option zV) (M1 : zM) (H1 : Heap) (locs1 : List Loc), Q1 v M1 → zm_GP G M1 H1 → va_S (zm_A G) s.heap H1 locs1 → W p l e R s m args below meth c H1 locs1 0 0 Q (F0 m (pc + 3) ls ((v.map (zc G)).toList ++ rest))) : W p l e R s m args below meth c H locs 0 0 Q (F0 m pc ls st0) := by
  intro T hT X
  obtain ⟨v, st₀, t, T', L, h0, X', hL, e1, e2, ⟨⟨v1, M1, hv, hq, hb⟩, hz, hk⟩, st⟩ := hr T hT X
  cases hv
  rw [h0] at hz hk
  obtain ⟨t2, a1, b1⟩ := kk v1 M1 T'.heap (locs ++ L) hq (by rw [e1]; exact hb)
    ⟨Nat.le_trans hS.1 (by rw [e1]; exact hz), fun q h1 h2 => by rw [e1, hk q (Nat.lt_of_lt_of_le h1 hS.1) h2]; exact hS.2.1 q h1 h2, fun q hq => by
      rcases List.mem_append.mp hq with h | h
      · exact hS.2.2 q h
      · exact hL q h⟩ T' rfl X'
  exact ⟨t2, st t2 a1, b1⟩
/-- what the tables say of a method -/
def zMx (y : MethodName) (Y : zY) (n : Nat) : Prop := Cond.initialized y.cls ∈ zT ∧ Cond.code y Y.2.1 Y.2.2.1 Y.2.2.2.1 ∈ zT ∧ (y.cls ≠ "java/lang/invoke/MethodHandle" ∧ y.cls ≠ "java/lang/invoke/VarHandle" ∧ (parseMethodDescriptor y.desc).map (fun d => d.parameters.length) = some n) ∧ Y.2.2.1 ≤ 21
def zMI (y : MethodName) (Y : zY) (n : Nat) : Prop := zMx y Y n ∧ Cond.instanceMethod y ∈ zT ∧ Cond.selects y.cls y y ∈ zT
def zMS (y : MethodName) (Y : zY) (n : Nat) : Prop := zMx y Y n ∧ Cond.static y ∈ zT
/-- the stack with these values upon it -/
def zstk : List zV → List zV → List zV
  | [], r => r
  | v :: av, r => zstk av (v :: r)
theorem zstk_eq (G : zG) : ∀ (av r : List zV), zm_sk G (zstk av r) = (zm_sk G av).reverse ++ zm_sk G r
  | [], r => rfl
  | v :: av, r => by
    rw [show zstk (v :: av) r = zstk av (v :: r) from rfl, zstk_eq G av (v :: r)]
    simp [zm_sk]
def zpush : Option zV → List zV → List zV
  | none, r => r
  | some v, r => v :: r
theorem zpush_eq (G : zG) (v : Option zV) (r : List zV) : zm_sk G (zpush v r) = (v.map (zc G)).toList ++ zm_sk G r := by
  cases v <;> rfl
theorem zm_cats (G : zG) : ∀ r : List zV, ((zm_sk G r).map fun v => v.category).sum = r.length
  | [] => rfl
  | v :: r => by
    show (zc G v).category + ((zm_sk G r).map fun v => v.category).sum = _
    rw [zc_cat, zm_cats G r, List.length_cons, Nat.add_comm]
theorem zRoom {Y Y' : zY} (hdep : Y'.2.2.2.2 + 1 ≤ Y.2.2.2.2) (hL : Y'.2.2.1 ≤ 21) : (zm_rm Y'.2.2.2.2).frames + 1 ≤ (zm_rm Y.2.2.2.2).frames ∧ 8 + (Y'.2.2.1 + 11) + (zm_rm Y'.2.2.2.2).locals ≤ (zm_rm Y.2.2.2.2).locals := by
  refine ⟨hdep, ?_⟩
  show 8 + (Y'.2.2.1 + 11) + 40 * Y'.2.2.2.2 ≤ 40 * Y.2.2.2.2
  omega
section ZCa
variable {G : zG} {Y : zY} {Q : Option zV → zM → Prop} {pc : Nat} {lo : List (Nat × zV)} {st : List zV} {M : zM}
theorem z_callV {y : MethodName} {Y' : zY} {n index ci : Nat} {fs : List (Option Int)} {As rest : List zV} {a : Int} {Q' : Option zV → zM → Prop} (hm : zMI y Y' n) (hM : zCall G y Y' (.inr (some a) :: As) M Q') (hst : st = zstk (.inr (some a) :: As) rest) (hd : decode Y.2.1 pc = .ok (.invokevirtual index, 3)) (hlink : Cond.methodLink Y.1 index y ∈ zT) (hdep : Y'.2.2.2.2 + 1 ≤ Y.2.2.2.2) (hn : As.length = n) (hrest : rest.length ≤ 8)
    (ha : 0 ≤ a ∧ a < 187) (hs : zm_sh a = .inr (.inl (ci, fs))) (hci : ci < 5) (hcls : (zm_cR ci).1 = y.cls)
    (k : ∀ (v : Option zV) (M' : zM), Q' v M' → zW G Y Q (pc + 3) lo (zpush v rest) M') : zW G Y Q pc lo st M := by
  intro p e s m args below meth c C H locs ls hP hS hl
  obtain ⟨hx, hb, hml, hr, hts, hown, hlk, hK, hSt, hJ, hN⟩ := id C
  obtain ⟨⟨i1, i2, ⟨i3, i4, i5⟩, i6⟩, i7, i8⟩ := hm
  subst hst
  have cw : CallW (zm_rm Y.2.2.2.2) s args Y.1 y.cls index y Y'.2.1 Y'.2.2.1 Y'.2.2.2.1 (zWs y Y') (zm_rm Y'.2.2.2.2) 0 0 n :=
    ⟨callB_of n hts (zGood y Y' i2) rfl rfl rfl (hts _ i1) (hts _ hlink) ⟨i3, i4, i5⟩ (zRoom hdep i6), hts _ i7, hts _ i8⟩
  have hrec : ∃ cellB : Cell, H[G.2.1 a]? = some cellB ∧ cellB.vm.isStatics = false ∧ s.vm.findClass y.cls = some cellB.cls := by
    obtain ⟨cell, g1, g2, g3⟩ := va_recv hK hP (zm_cOk hci).1 (zm_W_obj G M ha hs)
    exact ⟨cell, g1, g2, by rw [← hcls]; exact g3⟩
  have hstk : zm_sk G (zstk (.inr (some a) :: As) rest) = (zm_sk G As).reverse ++ Value.ref (G.2.1 a) :: zm_sk G rest := by
    rw [zstk_eq]
    simp [zm_sk, zc]
  refine zAfter (rest := zm_sk G rest) (va_runV (As := zm_sk G As) (b := G.2.1 a) (nL := Y.2.2.1) ⟨hx, hb, hml, hown, hts⟩ hM cw ⟨zPre_blind, hrec, fun U hU hW => ⟨rfl, zPre_now C hP hS U hU hW⟩⟩ rfl (by simpa [zm_sk] using hn) hl.1 hstk (lv_room (by rw [zm_cats]; exact hrest)) hd ⟨Nat.zero_le _, Nat.zero_le _⟩) hS (fun v M1 H1 locs1 hq hP1 hS1 => ?_)
  rw [← zpush_eq]
  exact k v M1 hq p e s m args below meth c C H1 locs1 ls hP1 hS1 hl
theorem z_callS {y : MethodName} {Y' : zY} {n index : Nat} {As rest : List zV} {Q' : Option zV → zM → Prop} (hm : zMS y Y' n) (hM : zCall G y Y' As M Q') (hst : st = zstk As rest) (hd : decode Y.2.1 pc = .ok (.invokestatic index, 3)) (hlink : Cond.methodLink Y.1 index y ∈ zT) (hdep : Y'.2.2.2.2 + 1 ≤ Y.2.2.2.2) (hn : As.length = n) (hrest : rest.length ≤ 8)
    (k : ∀ (v : Option zV) (M' : zM), Q' v M' → zW G Y Q (pc + 3) lo (zpush v rest) M') : zW G Y Q pc lo st M := by
  intro p e s m args below meth c C H locs ls hP hS hl
  obtain ⟨hx, hb, hml, hr, hts, hown, hlk, hK, hSt, hJ, hN⟩ := id C
  obtain ⟨⟨i1, i2, ⟨i3, i4, i5⟩, i6⟩, i7⟩ := hm
  subst hst
  refine zAfter (rest := zm_sk G rest) (va_runS (As := zm_sk G As) (nL := Y.2.2.1) ⟨hx, hb, hml, hown, hts⟩ hM ⟨callB_of n hts (zGood y Y' i2) rfl rfl rfl (hts _ i1) (hts _ hlink) ⟨i3, i4, i5⟩ (zRoom hdep i6), hts _ i7⟩ ⟨zPre_blind, fun U hU hW => ⟨rfl, zPre_now C hP hS U hU hW⟩⟩ rfl (by simpa [zm_sk] using hn) hl.1 (zstk_eq G As rest) (lv_room (by rw [zm_cats]; exact hrest)) hd ⟨Nat.zero_le _, Nat.zero_le _⟩) hS (fun v M1 H1 locs1 hq hP1 hS1 => ?_)
  rw [← zpush_eq]
  exact k v M1 hq p e s m args below meth c C H1 locs1 ls hP1 hS1 hl
theorem z_callSN {y : MethodName} {Y' : zY} {n index : Nat} {host : String} {As rest : List zV} {Q' : Option zV → zM → Prop} (hm : zMS y Y' n) (hM : zCall G y Y' As M Q') (hst : st = zstk As rest) (hd : decode Y.2.1 pc = .ok (.invokestatic index, 3)) (hlink : Cond.methodLinkNest Y.1 index y host ∈ zTN) (hdep : Y'.2.2.2.2 + 1 ≤ Y.2.2.2.2) (hn : As.length = n) (hrest : rest.length ≤ 8)
    (k : ∀ (v : Option zV) (M' : zM), Q' v M' → zW G Y Q (pc + 3) lo (zpush v rest) M') : zW G Y Q pc lo st M := by
  intro p e s m args below meth c C H locs ls hP hS hl
  obtain ⟨hx, hb, hml, hr, hts, hown, hlk, hK, hSt, hJ, hN⟩ := id C
  obtain ⟨⟨i1, i2, ⟨i3, i4, i5⟩, i6⟩, i7⟩ := hm
  subst hst
  refine zAfter (rest := zm_sk G rest) (va_runSN (host := host) (As := zm_sk G As) (nL := Y.2.2.1) ⟨hx, hb, hml, hown, hts⟩ hM ⟨va_cnB n hts (zGood y Y' i2) rfl rfl rfl (hN _ hlink) (hts _ i1) ⟨i3, i4, i5⟩ (zRoom hdep i6), hts _ i7, trivial⟩ ⟨zPre_blind, fun U hU hW => ⟨rfl, zPre_now C hP hS U hU hW⟩⟩ rfl (by simpa [zm_sk] using hn) hl.1 (zstk_eq G As rest) (lv_room (by rw [zm_cats]; exact hrest)) hd ⟨Nat.zero_le _, Nat.zero_le _⟩) hS (fun v M1 H1 locs1 hq hP1 hS1 => ?_)
  rw [← zpush_eq]
  exact k v M1 hq p e s m args below meth c C H1 locs1 ls hP1 hS1 hl
/-! the JDK's -/
theorem z_min {x y : Int} {index : Nat} (hd : decode Y.2.1 pc = .ok (.invokestatic index, 3)) (hlink : Cond.methodLink Y.1 index Lib.Math.min.name ∈ zT) (hstat : Cond.static Lib.Math.min.name ∈ zT) (hini : Cond.initialized "java/lang/Math" ∈ zT) (hcode : Cond.code Lib.Math.min.name Lib.Math.min.code 2 (some .int) ∈ zT) (hdep : 1 ≤ Y.2.2.2.2) (hst : st.length ≤ 8) (rx : -2147483648 ≤ x ∧ x < 2147483648) (ry : -2147483648 ≤ y ∧ y < 2147483648)
    (k : zW G Y Q (pc + 3) lo (.inl (min x y) :: st) M) : zW G Y Q pc lo (.inl y :: .inl x :: st) M := by
  intro p e s m args below meth c C H locs ls hP hS hl
  obtain ⟨hx, hb, hml, hr, hts, hown, hlk, hK, hSt, hJ, hN⟩ := id C
  refine va_mmin hx hb (hml.trans hl.1.symm) hown (hts _ hlink) (hts _ hstat) (hts _ hini) (hts _ hcode) hdep (by show ((zm_sk G st).map fun v => v.category).sum + 13 ≤ _; rw [zm_cats]; show st.length + 13 ≤ 40 * _; omega) (Nat.zero_le _) (Nat.zero_le _) hd ?_
  have he : (if Int32.ofInt y < Int32.ofInt x then Int32.ofInt y else Int32.ofInt x) = Int32.ofInt (min x y) := by
    by_cases h : y < x
    · rw [if_pos ((zn_lt ry rx).mpr h), show min x y = y by omega]
    · rw [if_neg (fun q => h ((zn_lt ry rx).mp q)), show min x y = x by omega]
  rw [he]
  exact k p e s m args below meth c C H locs ls hP hS hl
/-- a row of numbers copied -/
def zm_cp (M : zM) (a b n : Int) : zM := fun k j => if k = b ∧ 0 ≤ j ∧ j < n then M a j else M k j
theorem z_copy {a b x : Int} {na nb index : Nat} (hd : decode Y.2.1 pc = .ok (.invokestatic index, 3)) (hlink : Cond.methodLink Y.1 index arraycopyName ∈ zT) (hnat : Cond.native arraycopyName ∈ zT) (hstat : Cond.static arraycopyName ∈ zT) (hini : Cond.initialized "java/lang/System" ∈ zT) (hdep : 1 ≤ Y.2.2.2.2) (hst : st.length ≤ 8)
    (ha : 0 ≤ a ∧ a < 187) (hsa : zm_sh a = .inl (0, na)) (hb' : 0 ≤ b ∧ b < 187) (hsb : zm_sh b = .inl (0, nb)) (hx' : 0 ≤ x ∧ x ≤ na ∧ x ≤ nb ∧ x < 2147483648)
    (k : zW G Y Q (pc + 3) lo st (zm_cp M a b x)) : zW G Y Q pc lo (.inl x :: .inl 0 :: .inr (some b) :: .inl 0 :: .inr (some a) :: st) M := by
  intro p e s m args below meth c C H locs ls hP hS hl
  obtain ⟨hx, hb, hml, hr, hts, hown, hlk, hK, hSt, hJ, hN⟩ := id C
  have z0 : (Int32.ofInt 0).toNatClampNeg = 0 := rfl
  have zx : (Int32.ofInt x).toNatClampNeg = x.toNat := zn_cl (by omega)
  have nx : ¬ Int32.ofInt x < 0 := fun q => by
    have := (zn_lt (a := x) (b := 0) (by omega) (by omega)).mp q
    omega
  refine va_copyi hx hb (hml.trans hl.1.symm) hown (hts _ hlink) (hts _ hnat) (hts _ hstat) (hts _ hini) hK hP (zm_D hJ M) hS a.toNat b.toNat 0 0 (zm_W_arr G M ha hsa) (zm_W_arr G M hb' hsb) (zm_tys_at G (t := 0) (by omega)) (zm_tys_at G (t := 0) (by omega)) rfl (by decide) (by decide) nx (by rw [z0, zx]; omega) (by rw [z0, zx]; omega) (fun i _ => rfl) hdep ?_ hd (fun H1 locs1 hP1 hD1 hS1 => ?_)
  · show ((zm_sk G st).map fun v => v.category).sum + _ ≤ _
    rw [zm_cats]
    have : nativeFrameWords "java/lang/System" "arraycopy" 5 + 11 ≤ 32 := by decide
    show st.length + _ ≤ 40 * Y.2.2.2.2
    omega
  · have hset : (zm_W G M).set b.toNat (G.2.1 b, .inl (G.2.2.1 0, nb, .inl (va_cpy (fun j : Nat => Int32.ofInt (M a (j : Int))) (fun j : Nat => Int32.ofInt (M b (j : Int))) (Int32.ofInt 0).toNatClampNeg (Int32.ofInt 0).toNatClampNeg (Int32.ofInt x).toNatClampNeg))) = zm_W G (zm_cp M a b x) := by
      refine zm_W_set G M _ hb' ?_ (fun k hk => by funext j; simp [zm_cp, hk])
      rw [hsb, z0, zx]
      show (Sum.inl (G.2.2.1 0, nb, Sum.inl (fun j : Nat => Int32.ofInt (zm_cp M a b x b (j : Int)))) : va_E) = _
      congr 4
      funext j
      by_cases hj : (j : Int) < x
      · simp only [zm_cp, va_cpy]
        rw [if_pos ⟨trivial, by omega, hj⟩, if_pos ⟨Nat.zero_le _, by omega⟩, Nat.zero_add, Nat.sub_zero]
      · simp only [zm_cp, va_cpy]
        rw [if_neg (fun q => hj q.2.2), if_neg (fun q => hj (by omega))]
    rw [hset] at hP1
    exact k p e s m args below meth c C H1 locs1 ls hP1 hS1 hl
end ZCa
