/-! ===== same()'s contract; cell() ===== -/
def dA2 (G : zG) (g : Int → Nat) : Nat → Prop := fun q => zm_A G q ∨ zm_A ((G.1, g, G.2.2) : zG) q
def dPre2 (G : zG) (g : Int → Nat) (M N : zM) (U : State) : Prop := zm_GP G M U.heap ∧ zm_GP ((G.1, g, G.2.2) : zG) N U.heap ∧ va_K G.2.2.2 zm_cls (zm_tys G) U ∧ zm_St G (dA2 G g) U U.heap ∧ zm_St ((G.1, g, G.2.2) : zG) (dA2 G g) U U.heap ∧ zm_J G ∧ zm_J ((G.1, g, G.2.2) : zG) ∧ (∀ q, zm_A G q → ¬ zm_A ((G.1, g, G.2.2) : zG) q) ∧ zNs U
def dQc2 (G : zG) (g : Int → Nat) (P : zM → zM → Prop) : Array Value → State → Outcome → State → Prop := fun _ st oc t => (oc = .returned (some (.int (Int32.ofInt 1))) ∧ ∃ M' N' : zM, P M' N' ∧ zm_GP G M' t.heap ∧ zm_GP ((G.1, g, G.2.2) : zG) N' t.heap) ∧ va_F (dA2 G g) st t
theorem dPre2_blind {G : zG} {g : Int → Nat} {M N : zM} {av : List Value} : FrameBlind (va_Pc av (dPre2 G g M N)) := by
  intro a U f mk h
  obtain ⟨h1, hP, hP2, hK, hSt, hSt2, hJ, hJ2, hd, hN⟩ := h
  exact ⟨h1, hP, hP2, va_K.moved (u := U) (U := U.calling f mk a) (Vm.Alike.refl U.vm) hK, zm_St.moved (u := U) (U := U.calling f mk a) (Vm.Alike.refl U.vm) hSt, zm_St.moved (u := U) (U := U.calling f mk a) (Vm.Alike.refl U.vm) hSt2, hJ, hJ2, hd, zNs.same (u := U) (U := U.calling f mk a) (Eq.refl U.vm) hN⟩
theorem m_same {G : zG} {g : Int → Nat} {b1 b2 : Int} {T : wAb} {M N : zM} (hO : zO b1 M T) (hO2 : zO b2 N T) : Met G.1 yL_same (zWs yL_same YL_same) (zm_rm 3) (va_Pc [.ref (G.2.1 175), .ref (g 175)] (dPre2 G g M N)) (dQc2 G g (fun M' N' => zO b1 M' T ∧ zO b2 N' T)) 0 0 (dA2 G g) := by
  refine Met.ofW (cc := YL_same.2.1) (maxL := YL_same.2.2.1) (ret := YL_same.2.2.2.1) (ws' := zT) (by decide +kernel) rfl ?_
  intro p e s m args below meth c s₁ B hml hv
  obtain ⟨rfl, hP, hP2, hK, hSt, hSt2, hJ, hJ2, hdis, hN⟩ := hv
  have hts : ∀ w ∈ zT, w.before ([.ref (G.2.1 175), .ref (g 175)] : List Value).toArray s = true := fun w hw => atoms_spec (ws := zWs yL_same YL_same) B.pre w (List.mem_cons_of_mem _ hw)
  have hown : s.vm.findClass RL = some m.cls := findClass_of_methodNamed B.named
  have hl := lv_entry ([.ref (G.2.1 175), .ref (g 175)]) (n := 5) (Nat.le_of_ble_eq_true rfl)
  rw [lg_entry_eq]
  have C : dOk (smX G g (p, e, s, m, ([.ref (G.2.1 175), .ref (g 175)] : List Value).toArray, below, meth, c) (MQ below (dQc2 G g (fun M' N' => zO b1 M' T ∧ zO b2 N' T)) ([.ref (G.2.1 175), .ref (g 175)] : List Value).toArray s 0 0 (dA2 G g)) (dA2 G g)) := ⟨B.exec, B.bytes, hml, hts, hown, hK, hSt, hSt2, hJ, hJ2, hdis, hN, fun q h => Or.inl h, fun q h => Or.inr h⟩
  refine sa_all (G := G) (g := g) (F := (p, e, s, m, ([.ref (G.2.1 175), .ref (g 175)] : List Value).toArray, below, meth, c)) hO hO2 (fun M1 N1 k1 k2 => ?_) C s.heap [] _ hP hP2 va_S.rf hl
  intro C H locs ls hP hP2 hS hl
  exact W.zret (v := Int32.ofInt 1) (ty := .boolean) B.exec B.bytes B.returns (zTk_ok (Or.inr ⟨rfl, Or.inr rfl⟩)).1 (fun t ht _ => ⟨⟨rfl, M1, N1, ⟨k1, k2⟩, by rw [ht]; exact hP, by rw [ht]; exact hP2⟩, hS.F ht⟩) hS.2.2 dL_same_252
/-- a step of the script -/
def cV (L : Nat) (xs : Nat → Int32) (k : Int) : Int32 := (if k < (L : Int) then xs k.toNat else Int32.ofInt (56921 * (k + 71) + 107)) &&& Int32.ofInt 2147483647
theorem cV_r (L : Nat) (xs : Nat → Int32) (k : Int) : 0 ≤ (cV L xs k).toInt ∧ (cV L xs k).toInt < 2147483648 := by
  unfold cV
  generalize (if k < (L : Int) then xs k.toNat else Int32.ofInt (56921 * (k + 71) + 107)) = x
  have h1 : (x &&& Int32.ofInt 2147483647).toBitVec.toNat ≤ 2147483647 := by
    rw [Int32.toBitVec_and, BitVec.toNat_and]
    exact Nat.and_le_right
  have h2 : (x &&& Int32.ofInt 2147483647).toInt = ((x &&& Int32.ofInt 2147483647).toBitVec.toNat : Int) := by
    show (x &&& Int32.ofInt 2147483647).toBitVec.toInt = _
    rw [BitVec.toInt_eq_toNat_of_lt (by omega)]
  omega
def cPre (b L : Nat) (xs : Nat → Int32) (U : State) : Prop := va_X b L xs U U.heap
theorem cPre_blind {b L : Nat} {xs : Nat → Int32} {av : List Value} : FrameBlind (va_Pc av (cPre b L xs)) := by
  intro a U f mk h
  exact ⟨h.1, va_X.moved (u := U) (U := U.calling f mk a) (Vm.Alike.refl U.vm) h.2⟩
def cQc (v : Int32) : Array Value → State → Outcome → State → Prop := fun _ st oc t => oc = .returned (some (.int v)) ∧ va_F (fun _ => False) st t
theorem m_cell {l : Launch} {b L : Nat} {xs : Nat → Int32} {k : Int} (hk : 0 ≤ k ∧ k < 1000) (hL : L < 1000000) : Met l yL_cell (zWs yL_cell YL_cell) (zm_rm 0) (va_Pc [.ref b, .int (Int32.ofInt k)] (cPre b L xs)) (cQc (cV L xs k)) 0 0 (fun _ => False) := by
  refine Met.ofW (cc := YL_cell.2.1) (maxL := YL_cell.2.2.1) (ret := YL_cell.2.2.2.1) (ws' := zT) (by decide +kernel) rfl ?_
  intro p e s m args below meth c s₁ B hml hv
  obtain ⟨rfl, hX⟩ := hv
  have hX : va_X b L xs s s.heap := hX
  have hts : ∀ w ∈ zT, w.before ([.ref b, .int (Int32.ofInt k)] : List Value).toArray s = true := fun w hw => atoms_spec (ws := zWs yL_cell YL_cell) B.pre w (List.mem_cons_of_mem _ hw)
  have hown : s.vm.findClass RL = some m.cls := findClass_of_methodNamed B.named
  have hl := lv_entry ([.ref b, .int (Int32.ofInt k)]) (n := 2) (Nat.le_of_ble_eq_true rfl)
  rw [lg_entry_eq]
  have hbl : b < s.heap.size := by
    obtain ⟨scr, h1, -⟩ := hX
    exact (Array.getElem?_eq_some_iff.mp h1).1
  have hS : va_S (fun _ => False) s.heap s.heap [] := va_S.rf
  have hx := B.exec
  have hb : c.code = cL_cell := B.bytes
  generalize (lg_sl ([.ref b, .int (Int32.ofInt k)]) ++ List.replicate (2 - (lg_sl ([.ref b, .int (Int32.ofInt k)])).length) Slot.unset).toArray = ls at hl ⊢
  have hl : lv_has ls 2 [(0, .ref b), (1, .int (Int32.ofInt k))] := hl
  have hend : ∀ x : Int32, x = (if k < (L : Int) then xs k.toNat else Int32.ofInt (56921 * (k + 71) + 107)) → W p l e (zm_rm 0) s m ([.ref b, .int (Int32.ofInt k)] : List Value).toArray below meth c s.heap [] 0 0 (MQ below (cQc (cV L xs k)) ([.ref b, .int (Int32.ofInt k)] : List Value).toArray s 0 0 (fun _ => False)) (F0 m 22 ls [.int x]) := by
    intro x hxe
    refine lv_ldc hx hb hown (hts _ qL_8) dL_cell_22 ?_
    refine lv_iand hx hb dL_cell_24 ?_
    refine W.iret hx hb B.returns (fun t ht _ => ⟨?_, hS.F ht⟩) hS.2.2 dL_cell_25
    unfold cV
    rw [hxe]
  refine lv_iload_n hx hb dL_cell_0 rfl (lv_at hl 1 rfl) ?_
  refine lv_aload_n hx hb dL_cell_1 rfl (lv_at hl 0 rfl) ?_
  refine va_slen hx hb hX hbl (fun h => h) hS dL_cell_2 ?_
  rw [show Int32.ofNat L = Int32.ofInt (L : Int) from rfl]
  refine lv_icmp_ge (tgt := 12) hx hb dL_cell_3 (by decide) (fun q => ?_) (fun q => ?_)
  · have q := (zn_le (a := (L : Int)) (b := k) (by omega) (by omega)).mp q
    refine lv_ldc hx hb hown (hts _ qL_7) dL_cell_12 ?_
    refine lv_iload_n hx hb dL_cell_14 rfl (lv_at hl 1 rfl) ?_
    refine lv_bipush (v := Int32.ofInt 71) hx hb dL_cell_15 (by decide) ?_
    refine lv_iadd hx hb dL_cell_17 ?_
    refine lv_imul hx hb dL_cell_18 ?_
    refine lv_bipush (v := Int32.ofInt 107) hx hb dL_cell_19 (by decide) ?_
    refine lv_iadd hx hb dL_cell_21 ?_
    refine hend _ ?_
    rw [if_neg (by omega), ← Int32.ofInt_add, ← Int32.ofInt_mul, ← Int32.ofInt_add]
  · have q : k < (L : Int) := by
      have := mt (zn_le (a := (L : Int)) (b := k) (by omega) (by omega)).mpr q
      omega
    refine lv_aload_n hx hb dL_cell_6 rfl (lv_at hl 0 rfl) ?_
    refine lv_iload_n hx hb dL_cell_7 rfl (lv_at hl 1 rfl) ?_
    refine va_sld hx hb hX hbl (fun h => h) hS (zn_in ⟨hk.1, q⟩ (by omega)) dL_cell_8 ?_
    refine lv_goto (tgt := 22) hx hb dL_cell_9 (by decide) ?_
    refine hend _ ?_
    rw [if_pos q, zn_cl (by omega)]
