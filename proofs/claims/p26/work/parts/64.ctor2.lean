/-! ===== a new race, new ways up, a new history ===== -/
def nRace (G : zG) (a : Nat → Nat) : va_W := (a 0, .inr (2, [.ref (a 1), .int 0, .int 0, .int 0, .ref (a 2), .ref (a 3), .ref (a 4), .ref (a 5)])) :: (a 1, .inl (G.2.2.1 1, 60, .inl (fun _ => 0))) :: nIn G (a 2) 21 0 :: nIn G (a 3) 21 0 :: nIn G (a 4) 21 0 :: [nIn G (a 5) 21 0]
def nWays (G : zG) (a : Nat → Nat) : va_W := (a 0, .inr (3, [.ref (a 1), .ref (a 2)])) :: nIn G (a 1) 120 0 :: [nIn G (a 2) 120 0]
def nHist (G : zG) (h q : Nat) (α ρ : Nat → Nat → Nat) : va_W := (h, .inr (0, [.ref q, .int 0, .int 0])) :: (q, .inl (G.2.2.1 3, 4, .inr (.inr (.inr (.inr (fun j => if j < 4 then some (α j 0) else none)))))) :: (((nPane G (α 0) (ρ 0) ++ nPane G (α 1) (ρ 1)) ++ nPane G (α 2) (ρ 2)) ++ nPane G (α 3) (ρ 3))
theorem n_arrQ {cA : ClassId} {N : Nat} {f g : Nat → Option Nat} (h : ∀ j : Nat, j < N → f j = g j) : vp_cell cA (N, .inr (.inr (.inr (.inr f)))) = vp_cell cA (N, .inr (.inr (.inr (.inr g)))) := by
  rw [vp_cell_q, vp_cell_q]
  unfold arrV
  congr 1
  refine congrArg Array.ofFn ?_
  funext j
  exact congrArg va_rf (h j.val j.isLt)
theorem n_arrq {G : zG} {A : Nat → Prop} {y : MethodName} {Y : zY} {mc ms : Nat} {Q : va_W → Prop} {pc : Nat} {lo : List (Nat × Value)} {st : List Value} {ws : va_W} {k n : Nat} {q0 a N : Nat} {f g : Nat → Option Nat} {cA : ClassId} {w2 : va_W} (he : ws[q0]? = some (a, .inl (cA, N, .inr (.inr (.inr (.inr f)))))) (h : ∀ j : Nat, j < N → f j = g j) (hw : ws.set q0 (a, .inl (cA, N, .inr (.inr (.inr (.inr g))))) = w2) (kk : nW G A y Y mc ms Q pc lo st w2 k n) : nW G A y Y mc ms Q pc lo st ws k n := by
  intro p e s m args below meth c C H locs ls hP hD hS hl
  subst hw
  refine kk p e s m args below meth c C H locs ls (fun i q hi => ?_) (hD.set he) hS hl
  by_cases hq : i = q0
  · subst hq
    rw [List.getElem?_set_self (List.getElem?_eq_some_iff.mp he).1] at hi
    cases hi
    show H[a]? = some (vp_cell cA (N, .inr (.inr (.inr (.inr g)))))
    rw [← n_arrQ h]
    exact hP _ _ he
  · rw [List.getElem?_set_ne (Ne.symm hq)] at hi
    exact hP i q hi
set_option maxRecDepth 100000 in
set_option maxHeartbeats 4000000 in
theorem kX2_init {G : zG} {h : Nat} : nCall G yX2_init YX2_init [.ref h] [(h, .inr (2, [.null, .int 0, .int 0, .int 0, .null, .null, .null, .null]))] 5 144 (fun w => ∃ a : Nat → Nat, a 0 = h ∧ w = nRace G a) := by
  refine nEnter (by decide) rfl (Nat.le_of_ble_eq_true rfl) (fun A => ?_)
  refine n_aload_n 0 dX2_init_0 rfl ?_
  refine n_obj dX2_init_1 nObX2 nObI nObC (Nat.le_of_ble_eq_true rfl) (Nat.le_of_ble_eq_true rfl) ?_
  refine n_aload_n 0 dX2_init_4 rfl ?_
  refine n_bipush (v := 60) dX2_init_5 (by decide) ?_
  refine n_newa (t := 1) (N := 60) dX2_init_7 (Or.inr ⟨rfl, rfl⟩) nArr_char (by decide) (by decide) (Nat.le_of_ble_eq_true rfl) (Nat.le_of_ble_eq_true rfl) (fun q1 => ?_)
  refine ncong (w2 := ((h, .inr (2, [.null, .int 0, .int 0, .int 0, .null, .null, .null, .null])) :: [(q1, .inl (G.2.2.1 1, 60, .inl (fun _ => 0)))])) rfl ?_
  refine n_putF (ci := 2) (kf := 0) (q0 := 0) (w2 := ((h, .inr (2, [.ref q1, .int 0, .int 0, .int 0, .null, .null, .null, .null])) :: [(q1, .inl (G.2.2.1 1, 60, .inl (fun _ => 0)))])) dX2_init_9 (by decide) (Nat.le_of_ble_eq_true rfl) rfl rfl nFX2_9 rfl rfl rfl rfl rfl (Nat.le_of_ble_eq_true rfl) rfl ?_
  refine n_aload_n 0 dX2_init_12 rfl ?_
  refine n_iconst (v := 0) dX2_init_13 (by decide) ?_
  refine n_put (ci := 2) (kf := 1) (q0 := 0) (w2 := ((h, .inr (2, [.ref q1, .int (0), .int 0, .int 0, .null, .null, .null, .null])) :: [(q1, .inl (G.2.2.1 1, 60, .inl (fun _ => 0)))])) dX2_init_14 (by decide) (Nat.le_of_ble_eq_true rfl) rfl nFX2_15 rfl rfl rfl rfl (Nat.le_of_ble_eq_true rfl) rfl ?_
  refine n_aload_n 0 dX2_init_17 rfl ?_
  refine n_iconst (v := 0) dX2_init_18 (by decide) ?_
  refine n_put (ci := 2) (kf := 2) (q0 := 0) (w2 := ((h, .inr (2, [.ref q1, .int (0), .int (0), .int 0, .null, .null, .null, .null])) :: [(q1, .inl (G.2.2.1 1, 60, .inl (fun _ => 0)))])) dX2_init_19 (by decide) (Nat.le_of_ble_eq_true rfl) rfl nFX2_19 rfl rfl rfl rfl (Nat.le_of_ble_eq_true rfl) rfl ?_
  refine n_aload_n 0 dX2_init_22 rfl ?_
  refine n_iconst (v := 0) dX2_init_23 (by decide) ?_
  refine n_put (ci := 2) (kf := 3) (q0 := 0) (w2 := ((h, .inr (2, [.ref q1, .int (0), .int (0), .int (0), .null, .null, .null, .null])) :: [(q1, .inl (G.2.2.1 1, 60, .inl (fun _ => 0)))])) dX2_init_24 (by decide) (Nat.le_of_ble_eq_true rfl) rfl nFX2_22 rfl rfl rfl rfl (Nat.le_of_ble_eq_true rfl) rfl ?_
  refine n_aload_n 0 dX2_init_27 rfl ?_
  refine n_bipush (v := 21) dX2_init_28 (by decide) ?_
  refine n_newa (t := 0) (N := 21) dX2_init_30 (Or.inl ⟨rfl, rfl⟩) nArr_int (by decide) (by decide) (Nat.le_of_ble_eq_true rfl) (Nat.le_of_ble_eq_true rfl) (fun q2 => ?_)
  refine ncong (w2 := ((h, .inr (2, [.ref q1, .int (0), .int (0), .int (0), .null, .null, .null, .null])) :: [(q1, .inl (G.2.2.1 1, 60, .inl (fun _ => 0))), nIn G q2 21 0])) rfl ?_
  refine n_putF (ci := 2) (kf := 4) (q0 := 0) (w2 := ((h, .inr (2, [.ref q1, .int (0), .int (0), .int (0), .ref q2, .null, .null, .null])) :: [(q1, .inl (G.2.2.1 1, 60, .inl (fun _ => 0))), nIn G q2 21 0])) dX2_init_32 (by decide) (Nat.le_of_ble_eq_true rfl) rfl rfl nFX2_25 rfl rfl rfl rfl rfl (Nat.le_of_ble_eq_true rfl) rfl ?_
  refine n_aload_n 0 dX2_init_35 rfl ?_
  refine n_bipush (v := 21) dX2_init_36 (by decide) ?_
  refine n_newa (t := 0) (N := 21) dX2_init_38 (Or.inl ⟨rfl, rfl⟩) nArr_int (by decide) (by decide) (Nat.le_of_ble_eq_true rfl) (Nat.le_of_ble_eq_true rfl) (fun q3 => ?_)
  refine ncong (w2 := ((h, .inr (2, [.ref q1, .int (0), .int (0), .int (0), .ref q2, .null, .null, .null])) :: [(q1, .inl (G.2.2.1 1, 60, .inl (fun _ => 0))), nIn G q2 21 0, nIn G q3 21 0])) rfl ?_
  refine n_putF (ci := 2) (kf := 5) (q0 := 0) (w2 := ((h, .inr (2, [.ref q1, .int (0), .int (0), .int (0), .ref q2, .ref q3, .null, .null])) :: [(q1, .inl (G.2.2.1 1, 60, .inl (fun _ => 0))), nIn G q2 21 0, nIn G q3 21 0])) dX2_init_40 (by decide) (Nat.le_of_ble_eq_true rfl) rfl rfl nFX2_29 rfl rfl rfl rfl rfl (Nat.le_of_ble_eq_true rfl) rfl ?_
  refine n_aload_n 0 dX2_init_43 rfl ?_
  refine n_bipush (v := 21) dX2_init_44 (by decide) ?_
  refine n_newa (t := 0) (N := 21) dX2_init_46 (Or.inl ⟨rfl, rfl⟩) nArr_int (by decide) (by decide) (Nat.le_of_ble_eq_true rfl) (Nat.le_of_ble_eq_true rfl) (fun q4 => ?_)
  refine ncong (w2 := ((h, .inr (2, [.ref q1, .int (0), .int (0), .int (0), .ref q2, .ref q3, .null, .null])) :: [(q1, .inl (G.2.2.1 1, 60, .inl (fun _ => 0))), nIn G q2 21 0, nIn G q3 21 0, nIn G q4 21 0])) rfl ?_
  refine n_putF (ci := 2) (kf := 6) (q0 := 0) (w2 := ((h, .inr (2, [.ref q1, .int (0), .int (0), .int (0), .ref q2, .ref q3, .ref q4, .null])) :: [(q1, .inl (G.2.2.1 1, 60, .inl (fun _ => 0))), nIn G q2 21 0, nIn G q3 21 0, nIn G q4 21 0])) dX2_init_48 (by decide) (Nat.le_of_ble_eq_true rfl) rfl rfl nFX2_32 rfl rfl rfl rfl rfl (Nat.le_of_ble_eq_true rfl) rfl ?_
  refine n_aload_n 0 dX2_init_51 rfl ?_
  refine n_bipush (v := 21) dX2_init_52 (by decide) ?_
  refine n_newa (t := 0) (N := 21) dX2_init_54 (Or.inl ⟨rfl, rfl⟩) nArr_int (by decide) (by decide) (Nat.le_of_ble_eq_true rfl) (Nat.le_of_ble_eq_true rfl) (fun q5 => ?_)
  refine ncong (w2 := ((h, .inr (2, [.ref q1, .int (0), .int (0), .int (0), .ref q2, .ref q3, .ref q4, .null])) :: [(q1, .inl (G.2.2.1 1, 60, .inl (fun _ => 0))), nIn G q2 21 0, nIn G q3 21 0, nIn G q4 21 0, nIn G q5 21 0])) rfl ?_
  refine n_putF (ci := 2) (kf := 7) (q0 := 0) (w2 := ((h, .inr (2, [.ref q1, .int (0), .int (0), .int (0), .ref q2, .ref q3, .ref q4, .ref q5])) :: [(q1, .inl (G.2.2.1 1, 60, .inl (fun _ => 0))), nIn G q2 21 0, nIn G q3 21 0, nIn G q4 21 0, nIn G q5 21 0])) dX2_init_56 (by decide) (Nat.le_of_ble_eq_true rfl) rfl rfl nFX2_35 rfl rfl rfl rfl rfl (Nat.le_of_ble_eq_true rfl) rfl ?_
  exact n_vret dX2_init_59 rfl rfl rfl ⟨fun i => match i with | 0 => h | 1 => q1 | 2 => q2 | 3 => q3 | 4 => q4 | _ => q5, rfl, rfl⟩
set_option maxRecDepth 100000 in
set_option maxHeartbeats 4000000 in
theorem kX3_init {G : zG} {h : Nat} : nCall G yX3_init YX3_init [.ref h] [(h, .inr (3, [.null, .null]))] 2 240 (fun w => ∃ a : Nat → Nat, a 0 = h ∧ w = nWays G a) := by
  refine nEnter (by decide) rfl (Nat.le_of_ble_eq_true rfl) (fun A => ?_)
  refine n_aload_n 0 dX3_init_0 rfl ?_
  refine n_obj dX3_init_1 nObX3 nObI nObC (Nat.le_of_ble_eq_true rfl) (Nat.le_of_ble_eq_true rfl) ?_
  refine n_aload_n 0 dX3_init_4 rfl ?_
  refine n_bipush (v := 120) dX3_init_5 (by decide) ?_
  refine n_newa (t := 0) (N := 120) dX3_init_7 (Or.inl ⟨rfl, rfl⟩) nArr_int (by decide) (by decide) (Nat.le_of_ble_eq_true rfl) (Nat.le_of_ble_eq_true rfl) (fun q1 => ?_)
  refine ncong (w2 := ((h, .inr (3, [.null, .null])) :: [nIn G q1 120 0])) rfl ?_
  refine n_putF (ci := 3) (kf := 0) (q0 := 0) (w2 := ((h, .inr (3, [.ref q1, .null])) :: [nIn G q1 120 0])) dX3_init_9 (by decide) (Nat.le_of_ble_eq_true rfl) rfl rfl nFX3_9 rfl rfl rfl rfl rfl (Nat.le_of_ble_eq_true rfl) rfl ?_
  refine n_aload_n 0 dX3_init_12 rfl ?_
  refine n_bipush (v := 120) dX3_init_13 (by decide) ?_
  refine n_newa (t := 0) (N := 120) dX3_init_15 (Or.inl ⟨rfl, rfl⟩) nArr_int (by decide) (by decide) (Nat.le_of_ble_eq_true rfl) (Nat.le_of_ble_eq_true rfl) (fun q2 => ?_)
  refine ncong (w2 := ((h, .inr (3, [.ref q1, .null])) :: [nIn G q1 120 0, nIn G q2 120 0])) rfl ?_
  refine n_putF (ci := 3) (kf := 1) (q0 := 0) (w2 := ((h, .inr (3, [.ref q1, .ref q2])) :: [nIn G q1 120 0, nIn G q2 120 0])) dX3_init_17 (by decide) (Nat.le_of_ble_eq_true rfl) rfl rfl nFX3_15 rfl rfl rfl rfl rfl (Nat.le_of_ble_eq_true rfl) rfl ?_
  exact n_vret dX3_init_20 rfl rfl rfl ⟨fun i => match i with | 0 => h | 1 => q1 | _ => q2, rfl, rfl⟩
set_option maxRecDepth 100000 in
set_option maxHeartbeats 4000000 in
theorem kX0_init {G : zG} {h : Nat} : nCall G yX0_init YX0_init [.ref h] [(h, .inr (0, [.null, .int 0, .int 0]))] 101 2248 (fun w => ∃ (q : Nat) (α ρ : Nat → Nat → Nat), w = nHist G h q α ρ) := by
  refine nEnter (by decide) rfl (Nat.le_of_ble_eq_true rfl) (fun A => ?_)
  refine n_aload_n 0 dX0_init_0 rfl ?_
  refine n_obj dX0_init_1 nObX0 nObI nObC (Nat.le_of_ble_eq_true rfl) (Nat.le_of_ble_eq_true rfl) ?_
  refine n_aload_n 0 dX0_init_4 rfl ?_
  refine n_iconst (v := 4) dX0_init_5 (by decide) ?_
  refine n_newq (N := 4) dX0_init_6 nClX0_9 (by decide) (by decide) (Nat.le_of_ble_eq_true rfl) (Nat.le_of_ble_eq_true rfl) (fun q1 => ?_)
  refine ncong (w2 := ((h, .inr (0, [.null, .int 0, .int 0])) :: [(q1, .inl (G.2.2.1 3, 4, .inr (.inr (.inr (.inr (fun _ => none))))))])) rfl ?_
  refine n_putF (ci := 0) (kf := 0) (q0 := 0) (w2 := ((h, .inr (0, [.ref q1, .int 0, .int 0])) :: [(q1, .inl (G.2.2.1 3, 4, .inr (.inr (.inr (.inr (fun _ => none))))))])) dX0_init_9 (by decide) (Nat.le_of_ble_eq_true rfl) rfl rfl nFX0_11 rfl rfl rfl rfl rfl (Nat.le_of_ble_eq_true rfl) rfl ?_
  refine n_aload_n 0 dX0_init_12 rfl ?_
  refine n_iconst (v := 0) dX0_init_13 (by decide) ?_
  refine n_put (ci := 0) (kf := 1) (q0 := 0) (w2 := ((h, .inr (0, [.ref q1, .int (0), .int 0])) :: [(q1, .inl (G.2.2.1 3, 4, .inr (.inr (.inr (.inr (fun _ => none))))))])) dX0_init_14 (by decide) (Nat.le_of_ble_eq_true rfl) rfl nFX0_17 rfl rfl rfl rfl (Nat.le_of_ble_eq_true rfl) rfl ?_
  refine n_aload_n 0 dX0_init_17 rfl ?_
  refine n_iconst (v := 0) dX0_init_18 (by decide) ?_
  refine n_put (ci := 0) (kf := 2) (q0 := 0) (w2 := ((h, .inr (0, [.ref q1, .int (0), .int (0)])) :: [(q1, .inl (G.2.2.1 3, 4, .inr (.inr (.inr (.inr (fun _ => none))))))])) dX0_init_19 (by decide) (Nat.le_of_ble_eq_true rfl) rfl nFX0_21 rfl rfl rfl rfl (Nat.le_of_ble_eq_true rfl) rfl ?_
  refine n_iconst (v := 0) dX0_init_22 (by decide) ?_
  refine n_istore_n dX0_init_23 (Nat.le_of_ble_eq_true rfl) rfl ?_
  refine n_iload_n 0 dX0_init_24 rfl ?_
  refine n_iconst (v := 4) dX0_init_25 (by decide) ?_
  refine n_icmp_ge (tgt := 48) dX0_init_26 (by decide) (fun q => absurd q (by decide)) (fun _ => ?_)
  refine n_aload_n 1 dX0_init_29 rfl ?_
  refine n_get (ci := 0) (kf := 0) (q0 := 0) dX0_init_30 (by decide) (Nat.le_of_ble_eq_true rfl) rfl nFX0_11 rfl rfl ?_
  refine n_iload_n 0 dX0_init_33 rfl ?_
  refine n_new (ci := 1) (fs := [.null, .null, .null, .null, .null, .null, .null, .null, .null, .null, .null, .null, .null, .null, .null, .int 0, .int 0]) dX0_init_34 (by decide) nClX0_9 nIns_1 nIni_1 (by decide) (Nat.le_of_ble_eq_true rfl) (Nat.le_of_ble_eq_true rfl) (fun q2 => ?_)
  refine n_dup dX0_init_37 rfl ?_
  refine n_ctor (wr := ((h, .inr (0, [.ref q1, .int (0), .int (0)])) :: [(q1, .inl (G.2.2.1 3, 4, .inr (.inr (.inr (.inr (fun _ => none))))))])) (wc := [(q2, .inr (1, [.null, .null, .null, .null, .null, .null, .null, .null, .null, .null, .null, .null, .null, .null, .null, .int 0, .int 0]))]) dX0_init_38 mX1_init kX1_init (Or.inl nCX0_24) (Nat.le_of_ble_eq_true rfl) rfl (Nat.le_of_ble_eq_true rfl) (Nat.le_of_ble_eq_true rfl) (Nat.le_of_ble_eq_true rfl) (fun w1 hw1 => ?_)
  obtain ⟨a1, r1, e1, rfl⟩ := hw1
  subst e1
  refine ncong (w2 := ((h, .inr (0, [.ref q1, .int (0), .int (0)])) :: ([(q1, .inl (G.2.2.1 3, 4, .inr (.inr (.inr (.inr (fun _ => none))))))] ++ nPane G a1 r1))) rfl ?_
  refine n_aast (q0 := 1) (qk := 2) (w2 := ((h, .inr (0, [.ref q1, .int (0), .int (0)])) :: ([(q1, .inl (G.2.2.1 3, 4, .inr (.inr (.inr (.inr (va_up (fun _ => none) 0 (some (a1 0))))))))] ++ nPane G a1 r1))) dX0_init_41 rfl rfl (by unfold vp_in; decide) rfl ?_
  refine n_iinc (j := 0) (v := 1) dX0_init_42 rfl (by decide) (Nat.le_of_ble_eq_true rfl) rfl ?_
  refine n_goto (tgt := 24) dX0_init_45 (by decide) ?_
  refine n_iload_n 0 dX0_init_24 rfl ?_
  refine n_iconst (v := 4) dX0_init_25 (by decide) ?_
  refine n_icmp_ge (tgt := 48) dX0_init_26 (by decide) (fun q => absurd q (by decide)) (fun _ => ?_)
  refine n_aload_n 1 dX0_init_29 rfl ?_
  refine n_get (ci := 0) (kf := 0) (q0 := 0) dX0_init_30 (by decide) (Nat.le_of_ble_eq_true rfl) rfl nFX0_11 rfl rfl ?_
  refine n_iload_n 0 dX0_init_33 rfl ?_
  refine n_new (ci := 1) (fs := [.null, .null, .null, .null, .null, .null, .null, .null, .null, .null, .null, .null, .null, .null, .null, .int 0, .int 0]) dX0_init_34 (by decide) nClX0_9 nIns_1 nIni_1 (by decide) (Nat.le_of_ble_eq_true rfl) (Nat.le_of_ble_eq_true rfl) (fun q3 => ?_)
  refine n_dup dX0_init_37 rfl ?_
  refine n_ctor (wr := ((h, .inr (0, [.ref q1, .int (0), .int (0)])) :: ([(q1, .inl (G.2.2.1 3, 4, .inr (.inr (.inr (.inr (va_up (fun _ => none) 0 (some (a1 0))))))))] ++ nPane G a1 r1))) (wc := [(q3, .inr (1, [.null, .null, .null, .null, .null, .null, .null, .null, .null, .null, .null, .null, .null, .null, .null, .int 0, .int 0]))]) dX0_init_38 mX1_init kX1_init (Or.inl nCX0_24) (Nat.le_of_ble_eq_true rfl) rfl (Nat.le_of_ble_eq_true rfl) (Nat.le_of_ble_eq_true rfl) (Nat.le_of_ble_eq_true rfl) (fun w2 hw2 => ?_)
  obtain ⟨a2, r2, e2, rfl⟩ := hw2
  subst e2
  refine ncong (w2 := ((h, .inr (0, [.ref q1, .int (0), .int (0)])) :: (([(q1, .inl (G.2.2.1 3, 4, .inr (.inr (.inr (.inr (va_up (fun _ => none) 0 (some (a1 0))))))))] ++ nPane G a1 r1) ++ nPane G a2 r2))) rfl ?_
  refine n_aast (q0 := 1) (qk := 27) (w2 := ((h, .inr (0, [.ref q1, .int (0), .int (0)])) :: (([(q1, .inl (G.2.2.1 3, 4, .inr (.inr (.inr (.inr (va_up (va_up (fun _ => none) 0 (some (a1 0))) 1 (some (a2 0))))))))] ++ nPane G a1 r1) ++ nPane G a2 r2))) dX0_init_41 rfl rfl (by unfold vp_in; decide) rfl ?_
  refine n_iinc (j := 0) (v := 2) dX0_init_42 rfl (by decide) (Nat.le_of_ble_eq_true rfl) rfl ?_
  refine n_goto (tgt := 24) dX0_init_45 (by decide) ?_
  refine n_iload_n 0 dX0_init_24 rfl ?_
  refine n_iconst (v := 4) dX0_init_25 (by decide) ?_
  refine n_icmp_ge (tgt := 48) dX0_init_26 (by decide) (fun q => absurd q (by decide)) (fun _ => ?_)
  refine n_aload_n 1 dX0_init_29 rfl ?_
  refine n_get (ci := 0) (kf := 0) (q0 := 0) dX0_init_30 (by decide) (Nat.le_of_ble_eq_true rfl) rfl nFX0_11 rfl rfl ?_
  refine n_iload_n 0 dX0_init_33 rfl ?_
  refine n_new (ci := 1) (fs := [.null, .null, .null, .null, .null, .null, .null, .null, .null, .null, .null, .null, .null, .null, .null, .int 0, .int 0]) dX0_init_34 (by decide) nClX0_9 nIns_1 nIni_1 (by decide) (Nat.le_of_ble_eq_true rfl) (Nat.le_of_ble_eq_true rfl) (fun q4 => ?_)
  refine n_dup dX0_init_37 rfl ?_
  refine n_ctor (wr := ((h, .inr (0, [.ref q1, .int (0), .int (0)])) :: (([(q1, .inl (G.2.2.1 3, 4, .inr (.inr (.inr (.inr (va_up (va_up (fun _ => none) 0 (some (a1 0))) 1 (some (a2 0))))))))] ++ nPane G a1 r1) ++ nPane G a2 r2))) (wc := [(q4, .inr (1, [.null, .null, .null, .null, .null, .null, .null, .null, .null, .null, .null, .null, .null, .null, .null, .int 0, .int 0]))]) dX0_init_38 mX1_init kX1_init (Or.inl nCX0_24) (Nat.le_of_ble_eq_true rfl) rfl (Nat.le_of_ble_eq_true rfl) (Nat.le_of_ble_eq_true rfl) (Nat.le_of_ble_eq_true rfl) (fun w3 hw3 => ?_)
  obtain ⟨a3, r3, e3, rfl⟩ := hw3
  subst e3
  refine ncong (w2 := ((h, .inr (0, [.ref q1, .int (0), .int (0)])) :: ((([(q1, .inl (G.2.2.1 3, 4, .inr (.inr (.inr (.inr (va_up (va_up (fun _ => none) 0 (some (a1 0))) 1 (some (a2 0))))))))] ++ nPane G a1 r1) ++ nPane G a2 r2) ++ nPane G a3 r3))) rfl ?_
  refine n_aast (q0 := 1) (qk := 52) (w2 := ((h, .inr (0, [.ref q1, .int (0), .int (0)])) :: ((([(q1, .inl (G.2.2.1 3, 4, .inr (.inr (.inr (.inr (va_up (va_up (va_up (fun _ => none) 0 (some (a1 0))) 1 (some (a2 0))) 2 (some (a3 0))))))))] ++ nPane G a1 r1) ++ nPane G a2 r2) ++ nPane G a3 r3))) dX0_init_41 rfl rfl (by unfold vp_in; decide) rfl ?_
  refine n_iinc (j := 0) (v := 3) dX0_init_42 rfl (by decide) (Nat.le_of_ble_eq_true rfl) rfl ?_
  refine n_goto (tgt := 24) dX0_init_45 (by decide) ?_
  refine n_iload_n 0 dX0_init_24 rfl ?_
  refine n_iconst (v := 4) dX0_init_25 (by decide) ?_
  refine n_icmp_ge (tgt := 48) dX0_init_26 (by decide) (fun q => absurd q (by decide)) (fun _ => ?_)
  refine n_aload_n 1 dX0_init_29 rfl ?_
  refine n_get (ci := 0) (kf := 0) (q0 := 0) dX0_init_30 (by decide) (Nat.le_of_ble_eq_true rfl) rfl nFX0_11 rfl rfl ?_
  refine n_iload_n 0 dX0_init_33 rfl ?_
  refine n_new (ci := 1) (fs := [.null, .null, .null, .null, .null, .null, .null, .null, .null, .null, .null, .null, .null, .null, .null, .int 0, .int 0]) dX0_init_34 (by decide) nClX0_9 nIns_1 nIni_1 (by decide) (Nat.le_of_ble_eq_true rfl) (Nat.le_of_ble_eq_true rfl) (fun q5 => ?_)
  refine n_dup dX0_init_37 rfl ?_
  refine n_ctor (wr := ((h, .inr (0, [.ref q1, .int (0), .int (0)])) :: ((([(q1, .inl (G.2.2.1 3, 4, .inr (.inr (.inr (.inr (va_up (va_up (va_up (fun _ => none) 0 (some (a1 0))) 1 (some (a2 0))) 2 (some (a3 0))))))))] ++ nPane G a1 r1) ++ nPane G a2 r2) ++ nPane G a3 r3))) (wc := [(q5, .inr (1, [.null, .null, .null, .null, .null, .null, .null, .null, .null, .null, .null, .null, .null, .null, .null, .int 0, .int 0]))]) dX0_init_38 mX1_init kX1_init (Or.inl nCX0_24) (Nat.le_of_ble_eq_true rfl) rfl (Nat.le_of_ble_eq_true rfl) (Nat.le_of_ble_eq_true rfl) (Nat.le_of_ble_eq_true rfl) (fun w4 hw4 => ?_)
  obtain ⟨a4, r4, e4, rfl⟩ := hw4
  subst e4
  refine ncong (w2 := ((h, .inr (0, [.ref q1, .int (0), .int (0)])) :: (((([(q1, .inl (G.2.2.1 3, 4, .inr (.inr (.inr (.inr (va_up (va_up (va_up (fun _ => none) 0 (some (a1 0))) 1 (some (a2 0))) 2 (some (a3 0))))))))] ++ nPane G a1 r1) ++ nPane G a2 r2) ++ nPane G a3 r3) ++ nPane G a4 r4))) rfl ?_
  refine n_aast (q0 := 1) (qk := 77) (w2 := ((h, .inr (0, [.ref q1, .int (0), .int (0)])) :: (((([(q1, .inl (G.2.2.1 3, 4, .inr (.inr (.inr (.inr (va_up (va_up (va_up (va_up (fun _ => none) 0 (some (a1 0))) 1 (some (a2 0))) 2 (some (a3 0))) 3 (some (a4 0))))))))] ++ nPane G a1 r1) ++ nPane G a2 r2) ++ nPane G a3 r3) ++ nPane G a4 r4))) dX0_init_41 rfl rfl (by unfold vp_in; decide) rfl ?_
  refine n_iinc (j := 0) (v := 4) dX0_init_42 rfl (by decide) (Nat.le_of_ble_eq_true rfl) rfl ?_
  refine n_goto (tgt := 24) dX0_init_45 (by decide) ?_
  refine n_iload_n 0 dX0_init_24 rfl ?_
  refine n_iconst (v := 4) dX0_init_25 (by decide) ?_
  refine n_icmp_ge (tgt := 48) dX0_init_26 (by decide) (fun _ => ?_) (fun q => absurd (by decide) q)
  refine n_arrq (q0 := 1) (g := fun j => if j < 4 then some ((fun j : Nat => (match j with | 0 => a1 | 1 => a2 | 2 => a3 | _ => a4 : Nat → Nat)) j 0) else none) rfl (fun j hj => ?_) rfl ?_
  · rcases (show j = 0 ∨ j = 1 ∨ j = 2 ∨ j = 3 by omega) with rfl | rfl | rfl | rfl <;> rfl
  · exact n_vret dX0_init_48 rfl rfl rfl ⟨q1, (fun j : Nat => (match j with | 0 => a1 | 1 => a2 | 2 => a3 | _ => a4 : Nat → Nat)), (fun j : Nat => (match j with | 0 => r1 | 1 => r2 | 2 => r3 | _ => r4 : Nat → Nat)), rfl⟩

