/-! ===== the law's own steps ===== -/
def lA (s : State) : Nat → Prop := fun q => s.heap.size ≤ q
def lCx (G : zG) (p : Program) (s : State) (m : MethodId) (meth : Method) (c : Code) (b L : Nat) (xs : Nat → Int32) : Prop := lw_At p s m meth c b L xs ∧ L ≤ 2048 ∧ va_K G.2.2.2 zm_cls (zm_tys G) s ∧ zm_St G (zm_A G) s s.heap ∧ zNs s ∧ zm_J G ∧ ∀ q, zm_A G q → s.heap.size ≤ q
def lLo (G : zG) (b i : Nat) : List (Nat × Value) := [(3, .int (Int32.ofInt (i : Int))), (0, .ref b), (1, .ref (G.2.1 175)), (2, .ref (G.2.1 187))]
def lW (G : zG) (p : Program) (e : Env) (s : State) (m : MethodId) (below : List Frame) (meth : Method) (c : Code) (b i pc : Nat) (st : List zV) (M : zM) : Prop :=
  ∀ (H : Heap) (locs : List Loc) (ls : Array Slot), zm_GP G M H → va_S (lA s) s.heap H locs → lv_has ls 4 (lLo G b i) →
    W p G.1 e room_1 s m #[Value.ref b] below meth c H locs 195 8194 (lw_Z below #[Value.ref b] s) (F0 m pc ls (zm_sk G st))
theorem zr (x : Int32) : -2147483648 ≤ x.toInt ∧ x.toInt < 2147483648 := by
  have h1 := Int32.le_toInt x
  have h2 := Int32.toInt_lt x
  omega
theorem l_and (x : Int32) : 0 ≤ (x &&& 31).toInt ∧ (x &&& 31).toInt < 32 := by
  have h1 : (x &&& 31).toBitVec.toNat ≤ 31 := by
    rw [Int32.toBitVec_and, BitVec.toNat_and]
    exact Nat.and_le_right
  have h2 : (x &&& 31).toInt = ((x &&& 31).toBitVec.toNat : Int) := by
    show (x &&& 31).toBitVec.toInt = _
    rw [BitVec.toInt_eq_toNat_of_lt (by omega)]
  omega
theorem l_char (x : Int32) : 0 ≤ ((x.toUInt32 % 65536).toInt32).toInt ∧ ((x.toUInt32 % 65536).toInt32).toInt < 65536 := by
  have h1 : (x.toUInt32 % 65536).toNat < 65536 := by
    rw [UInt32.toNat_mod]
    exact Nat.mod_lt _ (by decide)
  have h2 : ((x.toUInt32 % 65536).toInt32).toInt = ((x.toUInt32 % 65536).toNat : Int) := by
    show (x.toUInt32 % 65536).toBitVec.toInt = _
    rw [BitVec.toInt_eq_toNat_of_lt (by show 2 * (x.toUInt32 % 65536).toNat < _; omega)]
    rfl
  omega
section LR
variable {G : zG} {p : Program} {e : Env} {s : State} {m : MethodId} {below : List Frame} {meth : Method} {c : Code} {b L i pc : Nat} {xs : Nat → Int32} {st : List zV} {M : zM}
theorem l_obj1 (C : lCx G p s m meth c b L xs) (hd : decode code pc = .ok (.aload_n 1, 1)) (k : lW G p e s m below meth c b i (pc + 1) (.inr (some 175) :: st) M) : lW G p e s m below meth c b i pc st M := by
  intro H locs ls hP hS hl
  obtain ⟨⟨hx, hb, hr, hml, hown, hts, hX, hbl, hlk, hgv⟩, hL, hK, hSt, hN, hJ, hA⟩ := C
  exact lv_aload_n hx hb hd rfl (lv_at hl 2 rfl) (k H locs ls hP hS hl)
theorem l_obj2 (C : lCx G p s m meth c b L xs) (hd : decode code pc = .ok (.aload_n 2, 1)) (k : lW G p e s m below meth c b i (pc + 1) (.inr (some 187) :: st) M) : lW G p e s m below meth c b i pc st M := by
  intro H locs ls hP hS hl
  obtain ⟨⟨hx, hb, hr, hml, hown, hts, hX, hbl, hlk, hgv⟩, hL, hK, hSt, hN, hJ, hA⟩ := C
  exact lv_aload_n hx hb hd rfl (lv_at hl 3 rfl) (k H locs ls hP hS hl)
theorem l_arg (C : lCx G p s m meth c b L xs) {d : Nat} (hi : i + 4 ≤ L) (hdd : d < 4) (h1 : decode code pc = .ok (.aload_n 0, 1)) (h2 : decode code (pc + 1) = .ok (.iload_n 3, 1)) (h3 : decode code (pc + 2) = .ok (.iconst (d : Int), 1)) (h4 : decode code (pc + 3) = .ok (.iadd, 1)) (h5 : decode code (pc + 4) = .ok (.iaload, 1))
    (k : lW G p e s m below meth c b i (pc + 5) (.inl (xs (i + d)).toInt :: st) M) : lW G p e s m below meth c b i pc st M := by
  intro H locs ls hP hS hl
  obtain ⟨⟨hx, hb, hr, hml, hown, hts, hX, hbl, hlk, hgv⟩, hL, hK, hSt, hN, hJ, hA⟩ := C
  have hbA : ¬ lA s b := Nat.not_le.mpr hbl
  refine lv_aload_n hx hb h1 rfl (lv_at hl 1 rfl) ?_
  refine lv_iload_n hx hb h2 rfl (lv_at hl 0 rfl) ?_
  refine lv_iconst (v := Int32.ofInt (d : Int)) hx hb h3 rfl ?_
  refine lv_iadd hx hb h4 ?_
  rw [← Int32.ofInt_add, show (i : Int) + (d : Int) = ((i + d : Nat) : Int) by omega]
  refine va_sld hx hb hX hbl hbA hS (n_in (by omega) (by omega)) h5 ?_
  rw [n_nat (by omega)]
  have := k H locs ls hP hS hl
  have e1 : zm_sk G (.inl (xs (i + d)).toInt :: st) = .int (xs (i + d)) :: zm_sk G st := by
    show Value.int (Int32.ofInt (xs (i + d)).toInt) :: zm_sk G st = _
    rw [Int32.ofInt_toInt]
  rw [e1] at this
  exact this
theorem l_i2c (C : lCx G p s m meth c b L xs) {x : Int32} (h1 : decode code pc = .ok (.i2c, 1)) (k : lW G p e s m below meth c b i (pc + 1) (.inl ((x.toUInt32 % 65536).toInt32).toInt :: st) M) : lW G p e s m below meth c b i pc (.inl x.toInt :: st) M := by
  intro H locs ls hP hS hl
  obtain ⟨⟨hx, hb, hr, hml, hown, hts, hX, hbl, hlk, hgv⟩, hL, hK, hSt, hN, hJ, hA⟩ := C
  have e0 : zm_sk G (.inl x.toInt :: st) = .int x :: zm_sk G st := by
    show Value.int (Int32.ofInt x.toInt) :: zm_sk G st = _
    rw [Int32.ofInt_toInt]
  rw [e0]
  refine lv_i2c (v := (x.toUInt32 % 65536).toInt32) hx hb h1 rfl ?_
  have := k H locs ls hP hS hl
  have e1 : zm_sk G (.inl ((x.toUInt32 % 65536).toInt32).toInt :: st) = .int ((x.toUInt32 % 65536).toInt32) :: zm_sk G st := by
    show Value.int (Int32.ofInt ((x.toUInt32 % 65536).toInt32).toInt) :: zm_sk G st = _
    rw [Int32.ofInt_toInt]
  rw [e1] at this
  exact this
theorem l_eq (C : lCx G p s m meth c b L xs) {x : Int} {off : Int} {tgt : Nat} (hd : decode code pc = .ok (.if_icmp .eq off, 3)) (ht : (pc : Int) + off = (tgt : Int)) (k : lW G p e s m below meth c b i tgt st M) : lW G p e s m below meth c b i pc (.inl x :: .inl x :: st) M := by
  intro H locs ls hP hS hl
  obtain ⟨⟨hx, hb, hr, hml, hown, hts, hX, hbl, hlk, hgv⟩, hL, hK, hSt, hN, hJ, hA⟩ := C
  exact lv_icmp_eq hx hb hd ht (fun _ => k H locs ls hP hS hl) (fun q => absurd rfl q)
theorem lAfter {R : Room} {args a : Array Value} {H : Heap} {locs : List Loc} {k n : Nat} {ls : Array Slot} {rest st0 : List Value} {A A1 : Nat → Prop} {Q : State → Prop} {l : Launch} {Q1 : Option zV → zM → Prop}
    (hr : va_Run p l e R s m args below meth c H locs k n 0 0 (F0 m pc ls st0) rest (zm_Qc G Q1 a) A1) (hF : ∀ (st t : State), (∃ oc, zm_Qc G Q1 a st oc t) → va_F A1 st t) (hS : va_S A s.heap H locs) (hA : ∀ q, A1 q → A q)
    (kk : ∀ (v : Option zV) (M1 : zM) (H1 : Heap) (locs1 : List Loc), Q1 v M1 → zm_GP G M1 H1 → va_S A s.heap H1 locs1 → W p l e R s m args below meth c H1 locs1 k n Q (F0 m (pc + 3) ls ((v.map (zc G)).toList ++ rest))) : W p l e R s m args below meth c H locs k n Q (F0 m pc ls st0) := by
  intro T hT X
  obtain ⟨v, st₀, t, T', Lc, h0, X', hL, e1, e2, hqq, st⟩ := hr T hT X
  obtain ⟨hz, hk⟩ := hF st₀ t ⟨_, hqq⟩
  obtain ⟨⟨v1, M1, hv, hq, hb⟩, -⟩ := hqq
  cases hv
  rw [h0] at hz hk
  obtain ⟨t2, a1, b1⟩ := kk v1 M1 T'.heap (locs ++ Lc) hq (by rw [e1]; exact hb)
    ⟨Nat.le_trans hS.1 (by rw [e1]; exact hz), fun q h1 h2 => by rw [e1, hk q (Nat.lt_of_lt_of_le h1 hS.1) (fun z => h2 (hA q z))]; exact hS.2.1 q h1 h2, fun q hq => by
      rcases List.mem_append.mp hq with h | h
      · exact hS.2.2 q h
      · exact hA _ (hL q h)⟩ T' rfl X'
  exact ⟨t2, st t2 a1, b1⟩
theorem l_call (C : lCx G p s m meth c b L xs) {y : MethodName} {Y' : zY} {n index ci : Nat} {fs : List (Option Int)} {As rest : List zV} {a : Int} {Q' : Option zV → zM → Prop} (hm : zMI y Y' n) (hM : zCall G y Y' (.inr (some a) :: As) M Q') (hst : st = zstk (.inr (some a) :: As) rest) (hd : decode code pc = .ok (.invokevirtual index, 3)) (hlink : Cond.methodLink R_law index y ∈ zT) (hdep : Y'.2.2.2.2 ≤ 8) (hn : As.length = n) (hrest : rest.length ≤ 8)
    (ha : 0 ≤ a ∧ a < 195) (hs : zm_sh a = .inr (.inl (ci, fs))) (hci : ci < 6) (hcls : (zm_cR ci).1 = y.cls)
    (k : ∀ (v : Option zV) (M' : zM), Q' v M' → lW G p e s m below meth c b i (pc + 3) (zpush v rest) M') : lW G p e s m below meth c b i pc st M := by
  intro H locs ls hP hS hl
  obtain ⟨⟨hx, hb, hr, hml, hown, hts0, hX, hbl, hlk, hgv⟩, hL, hK, hSt, hN, hJ, hA⟩ := C
  have hts : ∀ w ∈ zT, w.before #[Value.ref b] s = true := fun w hw => hts0 w (List.mem_filter.mp hw).1
  obtain ⟨⟨i1, i2, ⟨i3, i4, i5⟩, i6⟩, i7, i8⟩ := hm
  subst hst
  have hroom : (zm_rm Y'.2.2.2.2).frames + 1 ≤ room_1.frames ∧ 8 + (Y'.2.2.1 + 11) + (zm_rm Y'.2.2.2.2).locals ≤ room_1.locals := by
    refine ⟨?_, ?_⟩
    · show Y'.2.2.2.2 + 1 ≤ 11
      omega
    · show 8 + (Y'.2.2.1 + 11) + 40 * Y'.2.2.2.2 ≤ 420
      omega
  have cw : CallW room_1 s #[Value.ref b] R_law y.cls index y Y'.2.1 Y'.2.2.1 Y'.2.2.2.1 (zWs y Y') (zm_rm Y'.2.2.2.2) 0 0 n :=
    ⟨callB_of n hts (zGood y Y' i2) rfl rfl rfl (hts _ i1) (hts _ hlink) ⟨i3, i4, i5⟩ hroom, hts _ i7, hts _ i8⟩
  have hrec : ∃ cellB : Cell, H[G.2.1 a]? = some cellB ∧ cellB.vm.isStatics = false ∧ s.vm.findClass y.cls = some cellB.cls := by
    obtain ⟨cell, g1, g2, g3⟩ := va_recv hK hP (zm_cOk hci).1 (zm_W_obj G M ha hs)
    exact ⟨cell, g1, g2, by rw [← hcls]; exact g3⟩
  have hstk : zm_sk G (zstk (.inr (some a) :: As) rest) = (zm_sk G As).reverse ++ Value.ref (G.2.1 a) :: zm_sk G rest := by
    rw [zstk_eq]
    simp [zm_sk, zc]
  have hpre : ∀ U : State, U.heap = H → s.WarmedH U.vm → zPre G M U := by
    intro U hU hW
    refine ⟨by rw [hU]; exact hP, va_K.moved hW.alike hK, ?_, hJ, hN.warm hW⟩
    rw [hU]
    exact zm_St.moved hW.alike (hSt.kept (fun a h1 h2 => hS.2.1 a h1 (Nat.not_le.mpr h1)))
  refine lAfter (rest := zm_sk G rest) (va_runV (As := zm_sk G As) (b := G.2.1 a) (nL := 4) ⟨hx, hb, hml, hown, hts⟩ hM cw ⟨zPre_blind, hrec, fun U hU hW => ⟨rfl, hpre U hU hW⟩⟩ rfl (by simpa [zm_sk] using hn) hl.1 hstk (lv_room (by rw [zm_cats]; exact hrest)) hd ⟨by decide, by decide⟩) (fun st t ⟨oc, h⟩ => h.2) hS (fun q hq => hA q hq) (fun v M1 H1 locs1 hq hP1 hS1 => ?_)
  rw [← zpush_eq]
  exact k v M1 hq H1 locs1 ls hP1 hS1 hl
/-- the next step of the script -/
theorem l_next (C : lCx G p s m meth c b L xs) {off : Int} {tgt : Nat} (h1 : decode code pc = .ok (.iinc 3 4, 3)) (h2 : decode code (pc + 3) = .ok (.goto off, 3)) (ht : ((pc + 3 : Nat) : Int) + off = (tgt : Int)) (k : lW G p e s m below meth c b (i + 4) tgt st M) : lW G p e s m below meth c b i pc st M := by
  intro H locs ls hP hS hl
  obtain ⟨⟨hx, hb, hr, hml, hown, hts, hX, hbl, hlk, hgv⟩, hL, hK, hSt, hN, hJ, hA⟩ := C
  have hv : Int32.ofInt (i : Int) + Int32.ofInt 4 = Int32.ofInt ((i + 4 : Nat) : Int) := by
    rw [← Int32.ofInt_add]
    rfl
  refine lv_iinc (lv' := lLo G b (i + 4)) (k := 0) hx hb h1 hl rfl hv (by decide) rfl (fun ls' hl' => ?_)
  exact lv_goto hx hb h2 ht (k H locs ls' hP hS hl')
/-- the head of its loop -/
theorem l_head (C : lCx G p s m meth c b L xs) {off : Int} {tgt : Nat} (h1 : decode code pc = .ok (.iload_n 3, 1)) (h2 : decode code (pc + 1) = .ok (.aload_n 0, 1)) (h3 : decode code (pc + 2) = .ok (.arraylength, 1)) (h4 : decode code (pc + 3) = .ok (.iconst 4, 1)) (h5 : decode code (pc + 4) = .ok (.isub, 1)) (h6 : decode code (pc + 5) = .ok (.if_icmp .gt off, 3)) (ht : ((pc + 5 : Nat) : Int) + off = (tgt : Int)) (hi : i ≤ 4096)
    (kt : L < i + 4 → lW G p e s m below meth c b i tgt st M) (kf : i + 4 ≤ L → lW G p e s m below meth c b i (pc + 8) st M) : lW G p e s m below meth c b i pc st M := by
  intro H locs ls hP hS hl
  obtain ⟨⟨hx, hb, hr, hml, hown, hts, hX, hbl, hlk, hgv⟩, hL, hK, hSt, hN, hJ, hA⟩ := C
  have hbA : ¬ lA s b := Nat.not_le.mpr hbl
  refine lv_iload_n hx hb h1 rfl (lv_at hl 0 rfl) ?_
  refine lv_aload_n hx hb h2 rfl (lv_at hl 1 rfl) ?_
  refine va_slen hx hb hX hbl hbA hS h3 ?_
  refine lv_iconst (v := Int32.ofInt 4) hx hb h4 rfl ?_
  refine lv_isub hx hb h5 ?_
  rw [show Int32.ofNat L = Int32.ofInt (L : Int) from rfl, ← Int32.ofInt_sub]
  have hlt := zn_lt (a := (L : Int) - 4) (b := (i : Int)) (by omega) (by omega)
  refine lv_icmp_gt hx hb h6 ht (fun q => ?_) (fun q => ?_)
  · exact kt (by have := hlt.mp q; omega) H locs ls hP hS hl
  · refine kf ?_ H locs ls hP hS hl
    rcases Nat.lt_or_ge L (i + 4) with q1 | q1
    · exact absurd (hlt.mpr (by omega)) q
    · exact q1
/-- the choice of a call -/
theorem l_choose (C : lCx G p s m meth c b L xs) {dflt : Int} {offs : Array Int} {len tgt : Nat} (hi : i + 4 ≤ L) (h1 : decode code pc = .ok (.aload_n 0, 1)) (h2 : decode code (pc + 1) = .ok (.iload_n 3, 1)) (h3 : decode code (pc + 2) = .ok (.iaload, 1)) (h4 : decode code (pc + 3) = .ok (.bipush 31, 2)) (h5 : decode code (pc + 5) = .ok (.iand, 1)) (h6 : decode code (pc + 6) = .ok (.tableswitch dflt 0 22 offs, len)) (ht : ((pc + 6 : Nat) : Int) + dflt = (tgt : Int))
    (kin : ∀ j : Nat, j < 23 → ∀ (off : Int) (t : Nat), offs[j]? = some off → ((pc + 6 : Nat) : Int) + off = (t : Int) → lW G p e s m below meth c b i t st M) (kout : lW G p e s m below meth c b i tgt st M) (hof : ∀ j : Nat, j < 23 → ∃ (off : Int) (t : Nat), offs[j]? = some off ∧ ((pc + 6 : Nat) : Int) + off = (t : Int)) : lW G p e s m below meth c b i pc st M := by
  intro H locs ls hP hS hl
  obtain ⟨⟨hx, hb, hr, hml, hown, hts, hX, hbl, hlk, hgv⟩, hL, hK, hSt, hN, hJ, hA⟩ := C
  have hbA : ¬ lA s b := Nat.not_le.mpr hbl
  refine lv_aload_n hx hb h1 rfl (lv_at hl 1 rfl) ?_
  refine lv_iload_n hx hb h2 rfl (lv_at hl 0 rfl) ?_
  refine va_sld hx hb hX hbl hbA hS (n_in (by omega) (by omega)) h3 ?_
  refine lv_bipush (v := 31) hx hb h4 (by decide) ?_
  refine lv_iand hx hb h5 ?_
  have hr := l_and (xs ((Int32.ofInt (i : Int)).toNatClampNeg))
  generalize (xs ((Int32.ofInt (i : Int)).toNatClampNeg) &&& 31) = x at hr ⊢
  by_cases hj : x.toInt < 23
  · obtain ⟨off, t, o1, o2⟩ := hof x.toInt.toNat (by omega)
    exact lv_tableIn (tgt := t) hx hb h6 (by omega) (by omega) (by rw [Int.sub_zero]; exact o1) o2 (kin x.toInt.toNat (by omega) off t o1 o2 H locs ls hP hS hl)
  · exact lv_tableOut hx hb h6 (Or.inr (by omega)) ht (kout H locs ls hP hS hl)
/-- the law's end -/
theorem l_end (C : lCx G p s m meth c b L xs) (h1 : decode code pc = .ok (.iconst 1, 1)) (h2 : decode code (pc + 1) = .ok (.ireturn, 1)) : lW G p e s m below meth c b i pc [] M := by
  intro H locs ls hP hS hl
  obtain ⟨⟨hx, hb, hr, hml, hown, hts, hX, hbl, hlk, hgv⟩, hL, hK, hSt, hN, hJ, hA⟩ := C
  refine lv_iconst (v := 1) hx hb h1 (by decide) ?_
  refine va_forget (fun q hq => hS.2.2 q hq) ?_
  refine W.widen (k := 600000) (n := 7302250) (Nat.le_of_ble_eq_true rfl) (Nat.le_of_ble_eq_true rfl) ?_
  exact lw_ret hx hb hr hlk h2
end LR
