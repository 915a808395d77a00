/-! ===== the constructors ===== -/
def nIn (G : zG) (q N : Nat) (v : Int32) : Nat × va_E := (q, .inl (G.2.2.1 0, N, .inl (fun _ => v)))
/-- a new pane: itself, at a 0; its arrays at a 1 .. a 14, a 24; the rows of what is owed at r -/
def nPane (G : zG) (a r : Nat → Nat) : va_W :=
  (a 0, .inr (1, [.ref (a 1), .ref (a 2), .ref (a 3), .ref (a 4), .ref (a 5), .ref (a 6), .ref (a 7), .ref (a 8), .ref (a 9), .ref (a 10), .ref (a 11), .ref (a 12), .ref (a 13), .ref (a 14), .ref (a 24), .int 0, .int 0])) :: nIn G (a 1) 120 4 :: nIn G (a 2) 120 (Int32.ofInt (-5)) :: nIn G (a 3) 120 (Int32.ofInt (-5)) :: nIn G (a 4) 9 0 :: nIn G (a 5) 9 0 :: nIn G (a 6) 9 0 :: nIn G (a 7) 9 0 :: nIn G (a 8) 9 (Int32.ofInt (-5)) :: nIn G (a 9) 9 0 :: nIn G (a 10) 9 0 :: nIn G (a 11) 9 0 :: nIn G (a 12) 9 (Int32.ofInt (-5)) :: nIn G (a 13) 9 0 ::
  (a 14, .inl (G.2.2.1 2, 9, .inr (.inr (.inr (.inr (fun j => if j < 9 then some (r j) else none)))))) :: nIn G (r 0) 9 0 :: nIn G (r 1) 9 0 :: nIn G (r 2) 9 0 :: nIn G (r 3) 9 0 :: nIn G (r 4) 9 0 :: nIn G (r 5) 9 0 :: nIn G (r 6) 9 0 :: nIn G (r 7) 9 0 :: nIn G (r 8) 9 0 :: [(a 24, .inl (G.2.2.1 0, 4, .inl nFst))]

set_option maxRecDepth 100000 in
set_option maxHeartbeats 4000000 in
theorem kX1_init {G : zG} {h : Nat} : nCall G yX1_init YX1_init [.ref h] [(h, .inr (1, [.null, .null, .null, .null, .null, .null, .null, .null, .null, .null, .null, .null, .null, .null, .null, .int 0, .int 0]))] 24 544 (fun w => ∃ a r : Nat → Nat, a 0 = h ∧ w = nPane G a r) := by
  refine nEnter (by decide) rfl (Nat.le_of_ble_eq_true rfl) (fun A => ?_)
  refine n_aload_n 0 dX1_init_0 rfl ?_
  refine n_obj dX1_init_1 nObX1 nObI nObC (Nat.le_of_ble_eq_true rfl) (Nat.le_of_ble_eq_true rfl) ?_
  refine n_aload_n 0 dX1_init_4 rfl ?_
  refine n_bipush (v := 120) dX1_init_5 (by decide) ?_
  refine n_newa (t := 0) (N := 120) dX1_init_7 (Or.inl ⟨rfl, rfl⟩) nArr_int (by decide) (by decide) (Nat.le_of_ble_eq_true rfl) (Nat.le_of_ble_eq_true rfl) (fun q1 => ?_)
  refine ncong (w2 := ((h, .inr (1, [.null, .null, .null, .null, .null, .null, .null, .null, .null, .null, .null, .null, .null, .null, .null, .int 0, .int 0])) :: [nIn G q1 120 0])) rfl ?_
  refine n_putF (ci := 1) (kf := 0) (q0 := 0) (w2 := ((h, .inr (1, [.ref q1, .null, .null, .null, .null, .null, .null, .null, .null, .null, .null, .null, .null, .null, .null, .int 0, .int 0])) :: [nIn G q1 120 0])) dX1_init_9 (by decide) (Nat.le_of_ble_eq_true rfl) rfl rfl nFX1_9 rfl rfl rfl rfl rfl (Nat.le_of_ble_eq_true rfl) rfl ?_
  refine n_aload_n 0 dX1_init_12 rfl ?_
  refine n_bipush (v := 120) dX1_init_13 (by decide) ?_
  refine n_newa (t := 0) (N := 120) dX1_init_15 (Or.inl ⟨rfl, rfl⟩) nArr_int (by decide) (by decide) (Nat.le_of_ble_eq_true rfl) (Nat.le_of_ble_eq_true rfl) (fun q2 => ?_)
  refine ncong (w2 := ((h, .inr (1, [.ref q1, .null, .null, .null, .null, .null, .null, .null, .null, .null, .null, .null, .null, .null, .null, .int 0, .int 0])) :: [nIn G q1 120 0, nIn G q2 120 0])) rfl ?_
  refine n_putF (ci := 1) (kf := 1) (q0 := 0) (w2 := ((h, .inr (1, [.ref q1, .ref q2, .null, .null, .null, .null, .null, .null, .null, .null, .null, .null, .null, .null, .null, .int 0, .int 0])) :: [nIn G q1 120 0, nIn G q2 120 0])) dX1_init_17 (by decide) (Nat.le_of_ble_eq_true rfl) rfl rfl nFX1_15 rfl rfl rfl rfl rfl (Nat.le_of_ble_eq_true rfl) rfl ?_
  refine n_aload_n 0 dX1_init_20 rfl ?_
  refine n_bipush (v := 120) dX1_init_21 (by decide) ?_
  refine n_newa (t := 0) (N := 120) dX1_init_23 (Or.inl ⟨rfl, rfl⟩) nArr_int (by decide) (by decide) (Nat.le_of_ble_eq_true rfl) (Nat.le_of_ble_eq_true rfl) (fun q3 => ?_)
  refine ncong (w2 := ((h, .inr (1, [.ref q1, .ref q2, .null, .null, .null, .null, .null, .null, .null, .null, .null, .null, .null, .null, .null, .int 0, .int 0])) :: [nIn G q1 120 0, nIn G q2 120 0, nIn G q3 120 0])) rfl ?_
  refine n_putF (ci := 1) (kf := 2) (q0 := 0) (w2 := ((h, .inr (1, [.ref q1, .ref q2, .ref q3, .null, .null, .null, .null, .null, .null, .null, .null, .null, .null, .null, .null, .int 0, .int 0])) :: [nIn G q1 120 0, nIn G q2 120 0, nIn G q3 120 0])) dX1_init_25 (by decide) (Nat.le_of_ble_eq_true rfl) rfl rfl nFX1_18 rfl rfl rfl rfl rfl (Nat.le_of_ble_eq_true rfl) rfl ?_
  refine n_aload_n 0 dX1_init_28 rfl ?_
  refine n_bipush (v := 9) dX1_init_29 (by decide) ?_
  refine n_newa (t := 0) (N := 9) dX1_init_31 (Or.inl ⟨rfl, rfl⟩) nArr_int (by decide) (by decide) (Nat.le_of_ble_eq_true rfl) (Nat.le_of_ble_eq_true rfl) (fun q4 => ?_)
  refine ncong (w2 := ((h, .inr (1, [.ref q1, .ref q2, .ref q3, .null, .null, .null, .null, .null, .null, .null, .null, .null, .null, .null, .null, .int 0, .int 0])) :: [nIn G q1 120 0, nIn G q2 120 0, nIn G q3 120 0, nIn G q4 9 0])) rfl ?_
  refine n_putF (ci := 1) (kf := 3) (q0 := 0) (w2 := ((h, .inr (1, [.ref q1, .ref q2, .ref q3, .ref q4, .null, .null, .null, .null, .null, .null, .null, .null, .null, .null, .null, .int 0, .int 0])) :: [nIn G q1 120 0, nIn G q2 120 0, nIn G q3 120 0, nIn G q4 9 0])) dX1_init_33 (by decide) (Nat.le_of_ble_eq_true rfl) rfl rfl nFX1_21 rfl rfl rfl rfl rfl (Nat.le_of_ble_eq_true rfl) rfl ?_
  refine n_aload_n 0 dX1_init_36 rfl ?_
  refine n_bipush (v := 9) dX1_init_37 (by decide) ?_
  refine n_newa (t := 0) (N := 9) dX1_init_39 (Or.inl ⟨rfl, rfl⟩) nArr_int (by decide) (by decide) (Nat.le_of_ble_eq_true rfl) (Nat.le_of_ble_eq_true rfl) (fun q5 => ?_)
  refine ncong (w2 := ((h, .inr (1, [.ref q1, .ref q2, .ref q3, .ref q4, .null, .null, .null, .null, .null, .null, .null, .null, .null, .null, .null, .int 0, .int 0])) :: [nIn G q1 120 0, nIn G q2 120 0, nIn G q3 120 0, nIn G q4 9 0, nIn G q5 9 0])) rfl ?_
  refine n_putF (ci := 1) (kf := 4) (q0 := 0) (w2 := ((h, .inr (1, [.ref q1, .ref q2, .ref q3, .ref q4, .ref q5, .null, .null, .null, .null, .null, .null, .null, .null, .null, .null, .int 0, .int 0])) :: [nIn G q1 120 0, nIn G q2 120 0, nIn G q3 120 0, nIn G q4 9 0, nIn G q5 9 0])) dX1_init_41 (by decide) (Nat.le_of_ble_eq_true rfl) rfl rfl nFX1_24 rfl rfl rfl rfl rfl (Nat.le_of_ble_eq_true rfl) rfl ?_
  refine n_aload_n 0 dX1_init_44 rfl ?_
  refine n_bipush (v := 9) dX1_init_45 (by decide) ?_
  refine n_newa (t := 0) (N := 9) dX1_init_47 (Or.inl ⟨rfl, rfl⟩) nArr_int (by decide) (by decide) (Nat.le_of_ble_eq_true rfl) (Nat.le_of_ble_eq_true rfl) (fun q6 => ?_)
  refine ncong (w2 := ((h, .inr (1, [.ref q1, .ref q2, .ref q3, .ref q4, .ref q5, .null, .null, .null, .null, .null, .null, .null, .null, .null, .null, .int 0, .int 0])) :: [nIn G q1 120 0, nIn G q2 120 0, nIn G q3 120 0, nIn G q4 9 0, nIn G q5 9 0, nIn G q6 9 0])) rfl ?_
  refine n_putF (ci := 1) (kf := 5) (q0 := 0) (w2 := ((h, .inr (1, [.ref q1, .ref q2, .ref q3, .ref q4, .ref q5, .ref q6, .null, .null, .null, .null, .null, .null, .null, .null, .null, .int 0, .int 0])) :: [nIn G q1 120 0, nIn G q2 120 0, nIn G q3 120 0, nIn G q4 9 0, nIn G q5 9 0, nIn G q6 9 0])) dX1_init_49 (by decide) (Nat.le_of_ble_eq_true rfl) rfl rfl nFX1_27 rfl rfl rfl rfl rfl (Nat.le_of_ble_eq_true rfl) rfl ?_
  refine n_aload_n 0 dX1_init_52 rfl ?_
  refine n_bipush (v := 9) dX1_init_53 (by decide) ?_
  refine n_newa (t := 0) (N := 9) dX1_init_55 (Or.inl ⟨rfl, rfl⟩) nArr_int (by decide) (by decide) (Nat.le_of_ble_eq_true rfl) (Nat.le_of_ble_eq_true rfl) (fun q7 => ?_)
  refine ncong (w2 := ((h, .inr (1, [.ref q1, .ref q2, .ref q3, .ref q4, .ref q5, .ref q6, .null, .null, .null, .null, .null, .null, .null, .null, .null, .int 0, .int 0])) :: [nIn G q1 120 0, nIn G q2 120 0, nIn G q3 120 0, nIn G q4 9 0, nIn G q5 9 0, nIn G q6 9 0, nIn G q7 9 0])) rfl ?_
  refine n_putF (ci := 1) (kf := 6) (q0 := 0) (w2 := ((h, .inr (1, [.ref q1, .ref q2, .ref q3, .ref q4, .ref q5, .ref q6, .ref q7, .null, .null, .null, .null, .null, .null, .null, .null, .int 0, .int 0])) :: [nIn G q1 120 0, nIn G q2 120 0, nIn G q3 120 0, nIn G q4 9 0, nIn G q5 9 0, nIn G q6 9 0, nIn G q7 9 0])) dX1_init_57 (by decide) (Nat.le_of_ble_eq_true rfl) rfl rfl nFX1_30 rfl rfl rfl rfl rfl (Nat.le_of_ble_eq_true rfl) rfl ?_
  refine n_aload_n 0 dX1_init_60 rfl ?_
  refine n_bipush (v := 9) dX1_init_61 (by decide) ?_
  refine n_newa (t := 0) (N := 9) dX1_init_63 (Or.inl ⟨rfl, rfl⟩) nArr_int (by decide) (by decide) (Nat.le_of_ble_eq_true rfl) (Nat.le_of_ble_eq_true rfl) (fun q8 => ?_)
  refine ncong (w2 := ((h, .inr (1, [.ref q1, .ref q2, .ref q3, .ref q4, .ref q5, .ref q6, .ref q7, .null, .null, .null, .null, .null, .null, .null, .null, .int 0, .int 0])) :: [nIn G q1 120 0, nIn G q2 120 0, nIn G q3 120 0, nIn G q4 9 0, nIn G q5 9 0, nIn G q6 9 0, nIn G q7 9 0, nIn G q8 9 0])) rfl ?_
  refine n_putF (ci := 1) (kf := 7) (q0 := 0) (w2 := ((h, .inr (1, [.ref q1, .ref q2, .ref q3, .ref q4, .ref q5, .ref q6, .ref q7, .ref q8, .null, .null, .null, .null, .null, .null, .null, .int 0, .int 0])) :: [nIn G q1 120 0, nIn G q2 120 0, nIn G q3 120 0, nIn G q4 9 0, nIn G q5 9 0, nIn G q6 9 0, nIn G q7 9 0, nIn G q8 9 0])) dX1_init_65 (by decide) (Nat.le_of_ble_eq_true rfl) rfl rfl nFX1_33 rfl rfl rfl rfl rfl (Nat.le_of_ble_eq_true rfl) rfl ?_
  refine n_aload_n 0 dX1_init_68 rfl ?_
  refine n_bipush (v := 9) dX1_init_69 (by decide) ?_
  refine n_newa (t := 0) (N := 9) dX1_init_71 (Or.inl ⟨rfl, rfl⟩) nArr_int (by decide) (by decide) (Nat.le_of_ble_eq_true rfl) (Nat.le_of_ble_eq_true rfl) (fun q9 => ?_)
  refine ncong (w2 := ((h, .inr (1, [.ref q1, .ref q2, .ref q3, .ref q4, .ref q5, .ref q6, .ref q7, .ref q8, .null, .null, .null, .null, .null, .null, .null, .int 0, .int 0])) :: [nIn G q1 120 0, nIn G q2 120 0, nIn G q3 120 0, nIn G q4 9 0, nIn G q5 9 0, nIn G q6 9 0, nIn G q7 9 0, nIn G q8 9 0, nIn G q9 9 0])) rfl ?_
  refine n_putF (ci := 1) (kf := 8) (q0 := 0) (w2 := ((h, .inr (1, [.ref q1, .ref q2, .ref q3, .ref q4, .ref q5, .ref q6, .ref q7, .ref q8, .ref q9, .null, .null, .null, .null, .null, .null, .int 0, .int 0])) :: [nIn G q1 120 0, nIn G q2 120 0, nIn G q3 120 0, nIn G q4 9 0, nIn G q5 9 0, nIn G q6 9 0, nIn G q7 9 0, nIn G q8 9 0, nIn G q9 9 0])) dX1_init_73 (by decide) (Nat.le_of_ble_eq_true rfl) rfl rfl nFX1_36 rfl rfl rfl rfl rfl (Nat.le_of_ble_eq_true rfl) rfl ?_
  refine n_aload_n 0 dX1_init_76 rfl ?_
  refine n_bipush (v := 9) dX1_init_77 (by decide) ?_
  refine n_newa (t := 0) (N := 9) dX1_init_79 (Or.inl ⟨rfl, rfl⟩) nArr_int (by decide) (by decide) (Nat.le_of_ble_eq_true rfl) (Nat.le_of_ble_eq_true rfl) (fun q10 => ?_)
  refine ncong (w2 := ((h, .inr (1, [.ref q1, .ref q2, .ref q3, .ref q4, .ref q5, .ref q6, .ref q7, .ref q8, .ref q9, .null, .null, .null, .null, .null, .null, .int 0, .int 0])) :: [nIn G q1 120 0, nIn G q2 120 0, nIn G q3 120 0, nIn G q4 9 0, nIn G q5 9 0, nIn G q6 9 0, nIn G q7 9 0, nIn G q8 9 0, nIn G q9 9 0, nIn G q10 9 0])) rfl ?_
  refine n_putF (ci := 1) (kf := 9) (q0 := 0) (w2 := ((h, .inr (1, [.ref q1, .ref q2, .ref q3, .ref q4, .ref q5, .ref q6, .ref q7, .ref q8, .ref q9, .ref q10, .null, .null, .null, .null, .null, .int 0, .int 0])) :: [nIn G q1 120 0, nIn G q2 120 0, nIn G q3 120 0, nIn G q4 9 0, nIn G q5 9 0, nIn G q6 9 0, nIn G q7 9 0, nIn G q8 9 0, nIn G q9 9 0, nIn G q10 9 0])) dX1_init_81 (by decide) (Nat.le_of_ble_eq_true rfl) rfl rfl nFX1_39 rfl rfl rfl rfl rfl (Nat.le_of_ble_eq_true rfl) rfl ?_
  refine n_aload_n 0 dX1_init_84 rfl ?_
  refine n_bipush (v := 9) dX1_init_85 (by decide) ?_
  refine n_newa (t := 0) (N := 9) dX1_init_87 (Or.inl ⟨rfl, rfl⟩) nArr_int (by decide) (by decide) (Nat.le_of_ble_eq_true rfl) (Nat.le_of_ble_eq_true rfl) (fun q11 => ?_)
  refine ncong (w2 := ((h, .inr (1, [.ref q1, .ref q2, .ref q3, .ref q4, .ref q5, .ref q6, .ref q7, .ref q8, .ref q9, .ref q10, .null, .null, .null, .null, .null, .int 0, .int 0])) :: [nIn G q1 120 0, nIn G q2 120 0, nIn G q3 120 0, nIn G q4 9 0, nIn G q5 9 0, nIn G q6 9 0, nIn G q7 9 0, nIn G q8 9 0, nIn G q9 9 0, nIn G q10 9 0, nIn G q11 9 0])) rfl ?_
  refine n_putF (ci := 1) (kf := 10) (q0 := 0) (w2 := ((h, .inr (1, [.ref q1, .ref q2, .ref q3, .ref q4, .ref q5, .ref q6, .ref q7, .ref q8, .ref q9, .ref q10, .ref q11, .null, .null, .null, .null, .int 0, .int 0])) :: [nIn G q1 120 0, nIn G q2 120 0, nIn G q3 120 0, nIn G q4 9 0, nIn G q5 9 0, nIn G q6 9 0, nIn G q7 9 0, nIn G q8 9 0, nIn G q9 9 0, nIn G q10 9 0, nIn G q11 9 0])) dX1_init_89 (by decide) (Nat.le_of_ble_eq_true rfl) rfl rfl nFX1_42 rfl rfl rfl rfl rfl (Nat.le_of_ble_eq_true rfl) rfl ?_
  refine n_aload_n 0 dX1_init_92 rfl ?_
  refine n_bipush (v := 9) dX1_init_93 (by decide) ?_
  refine n_newa (t := 0) (N := 9) dX1_init_95 (Or.inl ⟨rfl, rfl⟩) nArr_int (by decide) (by decide) (Nat.le_of_ble_eq_true rfl) (Nat.le_of_ble_eq_true rfl) (fun q12 => ?_)
  refine ncong (w2 := ((h, .inr (1, [.ref q1, .ref q2, .ref q3, .ref q4, .ref q5, .ref q6, .ref q7, .ref q8, .ref q9, .ref q10, .ref q11, .null, .null, .null, .null, .int 0, .int 0])) :: [nIn G q1 120 0, nIn G q2 120 0, nIn G q3 120 0, nIn G q4 9 0, nIn G q5 9 0, nIn G q6 9 0, nIn G q7 9 0, nIn G q8 9 0, nIn G q9 9 0, nIn G q10 9 0, nIn G q11 9 0, nIn G q12 9 0])) rfl ?_
  refine n_putF (ci := 1) (kf := 11) (q0 := 0) (w2 := ((h, .inr (1, [.ref q1, .ref q2, .ref q3, .ref q4, .ref q5, .ref q6, .ref q7, .ref q8, .ref q9, .ref q10, .ref q11, .ref q12, .null, .null, .null, .int 0, .int 0])) :: [nIn G q1 120 0, nIn G q2 120 0, nIn G q3 120 0, nIn G q4 9 0, nIn G q5 9 0, nIn G q6 9 0, nIn G q7 9 0, nIn G q8 9 0, nIn G q9 9 0, nIn G q10 9 0, nIn G q11 9 0, nIn G q12 9 0])) dX1_init_97 (by decide) (Nat.le_of_ble_eq_true rfl) rfl rfl nFX1_45 rfl rfl rfl rfl rfl (Nat.le_of_ble_eq_true rfl) rfl ?_
  refine n_aload_n 0 dX1_init_100 rfl ?_
  refine n_bipush (v := 9) dX1_init_101 (by decide) ?_
  refine n_newa (t := 0) (N := 9) dX1_init_103 (Or.inl ⟨rfl, rfl⟩) nArr_int (by decide) (by decide) (Nat.le_of_ble_eq_true rfl) (Nat.le_of_ble_eq_true rfl) (fun q13 => ?_)
  refine ncong (w2 := ((h, .inr (1, [.ref q1, .ref q2, .ref q3, .ref q4, .ref q5, .ref q6, .ref q7, .ref q8, .ref q9, .ref q10, .ref q11, .ref q12, .null, .null, .null, .int 0, .int 0])) :: [nIn G q1 120 0, nIn G q2 120 0, nIn G q3 120 0, nIn G q4 9 0, nIn G q5 9 0, nIn G q6 9 0, nIn G q7 9 0, nIn G q8 9 0, nIn G q9 9 0, nIn G q10 9 0, nIn G q11 9 0, nIn G q12 9 0, nIn G q13 9 0])) rfl ?_
  refine n_putF (ci := 1) (kf := 12) (q0 := 0) (w2 := ((h, .inr (1, [.ref q1, .ref q2, .ref q3, .ref q4, .ref q5, .ref q6, .ref q7, .ref q8, .ref q9, .ref q10, .ref q11, .ref q12, .ref q13, .null, .null, .int 0, .int 0])) :: [nIn G q1 120 0, nIn G q2 120 0, nIn G q3 120 0, nIn G q4 9 0, nIn G q5 9 0, nIn G q6 9 0, nIn G q7 9 0, nIn G q8 9 0, nIn G q9 9 0, nIn G q10 9 0, nIn G q11 9 0, nIn G q12 9 0, nIn G q13 9 0])) dX1_init_105 (by decide) (Nat.le_of_ble_eq_true rfl) rfl rfl nFX1_48 rfl rfl rfl rfl rfl (Nat.le_of_ble_eq_true rfl) rfl ?_
  refine n_aload_n 0 dX1_init_108 rfl ?_
  refine n_bipush (v := 9) dX1_init_109 (by decide) ?_
  refine n_bipush (v := 9) dX1_init_111 (by decide) ?_
  refine n_multi dX1_init_113 nClX1_51 (Nat.le_of_ble_eq_true rfl) (Nat.le_of_ble_eq_true rfl) (fun q14 => ?_)
  refine ncong (w2 := ((h, .inr (1, [.ref q1, .ref q2, .ref q3, .ref q4, .ref q5, .ref q6, .ref q7, .ref q8, .ref q9, .ref q10, .ref q11, .ref q12, .ref q13, .null, .null, .int 0, .int 0])) :: ([nIn G q1 120 0, nIn G q2 120 0, nIn G q3 120 0, nIn G q4 9 0, nIn G q5 9 0, nIn G q6 9 0, nIn G q7 9 0, nIn G q8 9 0, nIn G q9 9 0, nIn G q10 9 0, nIn G q11 9 0, nIn G q12 9 0, nIn G q13 9 0] ++ nmW G q14))) rfl ?_
  refine n_putF (ci := 1) (kf := 13) (q0 := 0) (w2 := ((h, .inr (1, [.ref q1, .ref q2, .ref q3, .ref q4, .ref q5, .ref q6, .ref q7, .ref q8, .ref q9, .ref q10, .ref q11, .ref q12, .ref q13, .ref q14, .null, .int 0, .int 0])) :: ([nIn G q1 120 0, nIn G q2 120 0, nIn G q3 120 0, nIn G q4 9 0, nIn G q5 9 0, nIn G q6 9 0, nIn G q7 9 0, nIn G q8 9 0, nIn G q9 9 0, nIn G q10 9 0, nIn G q11 9 0, nIn G q12 9 0, nIn G q13 9 0] ++ nmW G q14))) dX1_init_117 (by decide) (Nat.le_of_ble_eq_true rfl) rfl rfl nFX1_53 rfl rfl rfl rfl rfl (Nat.le_of_ble_eq_true rfl) rfl ?_
  refine n_aload_n 0 dX1_init_120 rfl ?_
  refine n_gets dX1_init_121 nFS ?_
  refine n_clone dX1_init_124 nK1 nK2 nK3 nK4 nK5 (Nat.le_of_ble_eq_true rfl) (Nat.le_of_ble_eq_true rfl) (Nat.le_of_ble_eq_true rfl) (Nat.le_of_ble_eq_true rfl) (fun q15 => ?_)
  refine ncong (w2 := ((h, .inr (1, [.ref q1, .ref q2, .ref q3, .ref q4, .ref q5, .ref q6, .ref q7, .ref q8, .ref q9, .ref q10, .ref q11, .ref q12, .ref q13, .ref q14, .null, .int 0, .int 0])) :: (([nIn G q1 120 0, nIn G q2 120 0, nIn G q3 120 0, nIn G q4 9 0, nIn G q5 9 0, nIn G q6 9 0, nIn G q7 9 0, nIn G q8 9 0, nIn G q9 9 0, nIn G q10 9 0, nIn G q11 9 0, nIn G q12 9 0, nIn G q13 9 0] ++ nmW G q14) ++ [(q15, .inl (G.2.2.1 0, 4, .inl nFst))]))) rfl ?_
  refine n_cast (q0 := 24) dX1_init_127 nClX1_60 rfl ?_
  refine n_putF (ci := 1) (kf := 14) (q0 := 0) (w2 := ((h, .inr (1, [.ref q1, .ref q2, .ref q3, .ref q4, .ref q5, .ref q6, .ref q7, .ref q8, .ref q9, .ref q10, .ref q11, .ref q12, .ref q13, .ref q14, .ref q15, .int 0, .int 0])) :: (([nIn G q1 120 0, nIn G q2 120 0, nIn G q3 120 0, nIn G q4 9 0, nIn G q5 9 0, nIn G q6 9 0, nIn G q7 9 0, nIn G q8 9 0, nIn G q9 9 0, nIn G q10 9 0, nIn G q11 9 0, nIn G q12 9 0, nIn G q13 9 0] ++ nmW G q14) ++ [(q15, .inl (G.2.2.1 0, 4, .inl nFst))]))) dX1_init_130 (by decide) (Nat.le_of_ble_eq_true rfl) rfl rfl nFX1_64 rfl rfl rfl rfl rfl (Nat.le_of_ble_eq_true rfl) rfl ?_
  refine n_aload_n 0 dX1_init_133 rfl ?_
  refine n_iconst (v := 0) dX1_init_134 (by decide) ?_
  refine n_put (ci := 1) (kf := 15) (q0 := 0) (w2 := ((h, .inr (1, [.ref q1, .ref q2, .ref q3, .ref q4, .ref q5, .ref q6, .ref q7, .ref q8, .ref q9, .ref q10, .ref q11, .ref q12, .ref q13, .ref q14, .ref q15, .int (0), .int 0])) :: (([nIn G q1 120 0, nIn G q2 120 0, nIn G q3 120 0, nIn G q4 9 0, nIn G q5 9 0, nIn G q6 9 0, nIn G q7 9 0, nIn G q8 9 0, nIn G q9 9 0, nIn G q10 9 0, nIn G q11 9 0, nIn G q12 9 0, nIn G q13 9 0] ++ nmW G q14) ++ [(q15, .inl (G.2.2.1 0, 4, .inl nFst))]))) dX1_init_135 (by decide) (Nat.le_of_ble_eq_true rfl) rfl nFX1_67 rfl rfl rfl rfl (Nat.le_of_ble_eq_true rfl) rfl ?_
  refine n_aload_n 0 dX1_init_138 rfl ?_
  refine n_iconst (v := 0) dX1_init_139 (by decide) ?_
  refine n_put (ci := 1) (kf := 16) (q0 := 0) (w2 := ((h, .inr (1, [.ref q1, .ref q2, .ref q3, .ref q4, .ref q5, .ref q6, .ref q7, .ref q8, .ref q9, .ref q10, .ref q11, .ref q12, .ref q13, .ref q14, .ref q15, .int (0), .int (0)])) :: (([nIn G q1 120 0, nIn G q2 120 0, nIn G q3 120 0, nIn G q4 9 0, nIn G q5 9 0, nIn G q6 9 0, nIn G q7 9 0, nIn G q8 9 0, nIn G q9 9 0, nIn G q10 9 0, nIn G q11 9 0, nIn G q12 9 0, nIn G q13 9 0] ++ nmW G q14) ++ [(q15, .inl (G.2.2.1 0, 4, .inl nFst))]))) dX1_init_140 (by decide) (Nat.le_of_ble_eq_true rfl) rfl nFX1_71 rfl rfl rfl rfl (Nat.le_of_ble_eq_true rfl) rfl ?_
  refine n_aload_n 0 dX1_init_143 rfl ?_
  refine n_get (ci := 1) (kf := 0) (q0 := 0) dX1_init_144 (by decide) (Nat.le_of_ble_eq_true rfl) rfl nFX1_9 rfl rfl ?_
  refine n_iconst (v := 4) dX1_init_147 (by decide) ?_
  refine n_fill (q0 := 1) (w2 := ((h, .inr (1, [.ref q1, .ref q2, .ref q3, .ref q4, .ref q5, .ref q6, .ref q7, .ref q8, .ref q9, .ref q10, .ref q11, .ref q12, .ref q13, .ref q14, .ref q15, .int (0), .int (0)])) :: (([nIn G q1 120 (4), nIn G q2 120 0, nIn G q3 120 0, nIn G q4 9 0, nIn G q5 9 0, nIn G q6 9 0, nIn G q7 9 0, nIn G q8 9 0, nIn G q9 9 0, nIn G q10 9 0, nIn G q11 9 0, nIn G q12 9 0, nIn G q13 9 0] ++ nmW G q14) ++ [(q15, .inl (G.2.2.1 0, 4, .inl nFst))]))) dX1_init_148 mfill rfl (cFill (by decide)) nCX1_74 (Nat.le_of_ble_eq_true rfl) rfl rfl (Nat.le_of_ble_eq_true rfl) (Nat.le_of_ble_eq_true rfl) (Nat.le_of_ble_eq_true rfl) ?_
  refine n_aload_n 0 dX1_init_151 rfl ?_
  refine n_get (ci := 1) (kf := 1) (q0 := 0) dX1_init_152 (by decide) (Nat.le_of_ble_eq_true rfl) rfl nFX1_15 rfl rfl ?_
  refine n_bipush (v := Int32.ofInt (-5)) dX1_init_155 (by decide) ?_
  refine n_fill (q0 := 2) (w2 := ((h, .inr (1, [.ref q1, .ref q2, .ref q3, .ref q4, .ref q5, .ref q6, .ref q7, .ref q8, .ref q9, .ref q10, .ref q11, .ref q12, .ref q13, .ref q14, .ref q15, .int (0), .int (0)])) :: (([nIn G q1 120 (4), nIn G q2 120 (Int32.ofInt (-5)), nIn G q3 120 0, nIn G q4 9 0, nIn G q5 9 0, nIn G q6 9 0, nIn G q7 9 0, nIn G q8 9 0, nIn G q9 9 0, nIn G q10 9 0, nIn G q11 9 0, nIn G q12 9 0, nIn G q13 9 0] ++ nmW G q14) ++ [(q15, .inl (G.2.2.1 0, 4, .inl nFst))]))) dX1_init_157 mfill rfl (cFill (by decide)) nCX1_74 (Nat.le_of_ble_eq_true rfl) rfl rfl (Nat.le_of_ble_eq_true rfl) (Nat.le_of_ble_eq_true rfl) (Nat.le_of_ble_eq_true rfl) ?_
  refine n_aload_n 0 dX1_init_160 rfl ?_
  refine n_get (ci := 1) (kf := 2) (q0 := 0) dX1_init_161 (by decide) (Nat.le_of_ble_eq_true rfl) rfl nFX1_18 rfl rfl ?_
  refine n_bipush (v := Int32.ofInt (-5)) dX1_init_164 (by decide) ?_
  refine n_fill (q0 := 3) (w2 := ((h, .inr (1, [.ref q1, .ref q2, .ref q3, .ref q4, .ref q5, .ref q6, .ref q7, .ref q8, .ref q9, .ref q10, .ref q11, .ref q12, .ref q13, .ref q14, .ref q15, .int (0), .int (0)])) :: (([nIn G q1 120 (4), nIn G q2 120 (Int32.ofInt (-5)), nIn G q3 120 (Int32.ofInt (-5)), nIn G q4 9 0, nIn G q5 9 0, nIn G q6 9 0, nIn G q7 9 0, nIn G q8 9 0, nIn G q9 9 0, nIn G q10 9 0, nIn G q11 9 0, nIn G q12 9 0, nIn G q13 9 0] ++ nmW G q14) ++ [(q15, .inl (G.2.2.1 0, 4, .inl nFst))]))) dX1_init_166 mfill rfl (cFill (by decide)) nCX1_74 (Nat.le_of_ble_eq_true rfl) rfl rfl (Nat.le_of_ble_eq_true rfl) (Nat.le_of_ble_eq_true rfl) (Nat.le_of_ble_eq_true rfl) ?_
  refine n_aload_n 0 dX1_init_169 rfl ?_
  refine n_get (ci := 1) (kf := 7) (q0 := 0) dX1_init_170 (by decide) (Nat.le_of_ble_eq_true rfl) rfl nFX1_33 rfl rfl ?_
  refine n_bipush (v := Int32.ofInt (-5)) dX1_init_173 (by decide) ?_
  refine n_fill (q0 := 8) (w2 := ((h, .inr (1, [.ref q1, .ref q2, .ref q3, .ref q4, .ref q5, .ref q6, .ref q7, .ref q8, .ref q9, .ref q10, .ref q11, .ref q12, .ref q13, .ref q14, .ref q15, .int (0), .int (0)])) :: (([nIn G q1 120 (4), nIn G q2 120 (Int32.ofInt (-5)), nIn G q3 120 (Int32.ofInt (-5)), nIn G q4 9 0, nIn G q5 9 0, nIn G q6 9 0, nIn G q7 9 0, nIn G q8 9 (Int32.ofInt (-5)), nIn G q9 9 0, nIn G q10 9 0, nIn G q11 9 0, nIn G q12 9 0, nIn G q13 9 0] ++ nmW G q14) ++ [(q15, .inl (G.2.2.1 0, 4, .inl nFst))]))) dX1_init_175 mfill rfl (cFill (by decide)) nCX1_74 (Nat.le_of_ble_eq_true rfl) rfl rfl (Nat.le_of_ble_eq_true rfl) (Nat.le_of_ble_eq_true rfl) (Nat.le_of_ble_eq_true rfl) ?_
  refine n_aload_n 0 dX1_init_178 rfl ?_
  refine n_get (ci := 1) (kf := 11) (q0 := 0) dX1_init_179 (by decide) (Nat.le_of_ble_eq_true rfl) rfl nFX1_45 rfl rfl ?_
  refine n_bipush (v := Int32.ofInt (-5)) dX1_init_182 (by decide) ?_
  refine n_fill (q0 := 12) (w2 := ((h, .inr (1, [.ref q1, .ref q2, .ref q3, .ref q4, .ref q5, .ref q6, .ref q7, .ref q8, .ref q9, .ref q10, .ref q11, .ref q12, .ref q13, .ref q14, .ref q15, .int (0), .int (0)])) :: (([nIn G q1 120 (4), nIn G q2 120 (Int32.ofInt (-5)), nIn G q3 120 (Int32.ofInt (-5)), nIn G q4 9 0, nIn G q5 9 0, nIn G q6 9 0, nIn G q7 9 0, nIn G q8 9 (Int32.ofInt (-5)), nIn G q9 9 0, nIn G q10 9 0, nIn G q11 9 0, nIn G q12 9 (Int32.ofInt (-5)), nIn G q13 9 0] ++ nmW G q14) ++ [(q15, .inl (G.2.2.1 0, 4, .inl nFst))]))) dX1_init_184 mfill rfl (cFill (by decide)) nCX1_74 (Nat.le_of_ble_eq_true rfl) rfl rfl (Nat.le_of_ble_eq_true rfl) (Nat.le_of_ble_eq_true rfl) (Nat.le_of_ble_eq_true rfl) ?_
  exact n_vret dX1_init_187 rfl rfl rfl ⟨fun i => match i with | 0 => h | 1 => q1 | 2 => q2 | 3 => q3 | 4 => q4 | 5 => q5 | 6 => q6 | 7 => q7 | 8 => q8 | 9 => q9 | 10 => q10 | 11 => q11 | 12 => q12 | 13 => q13 | 14 => q14 | _ => q15, fun j => q14 + 1 + j, rfl, rfl⟩

