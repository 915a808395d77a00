/-! ===== a new class, a new model ===== -/
/-- a new class: itself at h; its seven panes at α, ρ (three of its own, four of the history); the history at hq, its row at s; the race at b; the ways up at c -/
def nSnail (G : zG) (h : Nat) (α ρ : Nat → Nat → Nat) (hq s : Nat) (b c : Nat → Nat) : va_W :=
  (h, .inr (4, [.ref (α 0 0), .ref (α 1 0), .ref (α 2 0), .int 0, .ref hq, .ref (b 0), .ref (c 0), .int (Int32.ofInt (-5)), .int (Int32.ofInt (-5))])) :: (((((nPane G (α 0) (ρ 0) ++ nPane G (α 1) (ρ 1)) ++ nPane G (α 2) (ρ 2)) ++ nHist G hq s (fun i => α (i + 3)) (fun i => ρ (i + 3))) ++ nRace G b) ++ nWays G c)
set_option maxRecDepth 100000 in
set_option maxHeartbeats 4000000 in
theorem kX4_init {G : zG} {h : Nat} : nCall G yX4_init YX4_init [.ref h] [(h, .inr (4, [.null, .null, .null, .int 0, .null, .null, .null, .int 0, .int 0]))] 186 4328 (fun w => ∃ (α ρ : Nat → Nat → Nat) (hq s : Nat) (b c : Nat → Nat), w = nSnail G h α ρ hq s b c) := by
  refine nEnter (by decide) rfl (Nat.le_of_ble_eq_true rfl) (fun A => ?_)
  refine n_aload_n 0 dX4_init_0 rfl ?_
  refine n_obj dX4_init_1 nObX4 nObI nObC (Nat.le_of_ble_eq_true rfl) (Nat.le_of_ble_eq_true rfl) ?_
  refine n_aload_n 0 dX4_init_4 rfl ?_
  refine n_new (ci := 1) (fs := [.null, .null, .null, .null, .null, .null, .null, .null, .null, .null, .null, .null, .null, .null, .null, .int 0, .int 0]) dX4_init_5 (by decide) nClX4_9 nIns_1 nIni_1 (by decide) (Nat.le_of_ble_eq_true rfl) (Nat.le_of_ble_eq_true rfl) (fun q1 => ?_)
  refine n_dup dX4_init_8 rfl ?_
  refine n_ctor (wr := ((h, .inr (4, [.null, .null, .null, .int 0, .null, .null, .null, .int 0, .int 0])) :: [])) (wc := [(q1, .inr (1, [.null, .null, .null, .null, .null, .null, .null, .null, .null, .null, .null, .null, .null, .null, .null, .int 0, .int 0]))]) dX4_init_9 mX1_init kX1_init (Or.inl nCX4_11) (Nat.le_of_ble_eq_true rfl) rfl (Nat.le_of_ble_eq_true rfl) (Nat.le_of_ble_eq_true rfl) (Nat.le_of_ble_eq_true rfl) (fun w1 hw1 => ?_)
  obtain ⟨a1, r1, e1, rfl⟩ := hw1
  subst e1
  refine ncong (w2 := ((h, .inr (4, [.null, .null, .null, .int 0, .null, .null, .null, .int 0, .int 0])) :: nPane G a1 r1)) rfl ?_
  refine n_putF (ci := 4) (kf := 0) (q0 := 0) (w2 := ((h, .inr (4, [.ref (a1 0), .null, .null, .int 0, .null, .null, .null, .int 0, .int 0])) :: nPane G a1 r1)) dX4_init_12 (by decide) (Nat.le_of_ble_eq_true rfl) rfl rfl nFX4_12 rfl rfl rfl rfl rfl (Nat.le_of_ble_eq_true rfl) rfl ?_
  refine n_aload_n 0 dX4_init_15 rfl ?_
  refine n_new (ci := 1) (fs := [.null, .null, .null, .null, .null, .null, .null, .null, .null, .null, .null, .null, .null, .null, .null, .int 0, .int 0]) dX4_init_16 (by decide) nClX4_9 nIns_1 nIni_1 (by decide) (Nat.le_of_ble_eq_true rfl) (Nat.le_of_ble_eq_true rfl) (fun q2 => ?_)
  refine n_dup dX4_init_19 rfl ?_
  refine n_ctor (wr := ((h, .inr (4, [.ref (a1 0), .null, .null, .int 0, .null, .null, .null, .int 0, .int 0])) :: nPane G a1 r1)) (wc := [(q2, .inr (1, [.null, .null, .null, .null, .null, .null, .null, .null, .null, .null, .null, .null, .null, .null, .null, .int 0, .int 0]))]) dX4_init_20 mX1_init kX1_init (Or.inl nCX4_11) (Nat.le_of_ble_eq_true rfl) rfl (Nat.le_of_ble_eq_true rfl) (Nat.le_of_ble_eq_true rfl) (Nat.le_of_ble_eq_true rfl) (fun w2 hw2 => ?_)
  obtain ⟨a2, r2, e2, rfl⟩ := hw2
  subst e2
  refine ncong (w2 := ((h, .inr (4, [.ref (a1 0), .null, .null, .int 0, .null, .null, .null, .int 0, .int 0])) :: (nPane G a1 r1 ++ nPane G a2 r2))) rfl ?_
  refine n_putF (ci := 4) (kf := 1) (q0 := 0) (w2 := ((h, .inr (4, [.ref (a1 0), .ref (a2 0), .null, .int 0, .null, .null, .null, .int 0, .int 0])) :: (nPane G a1 r1 ++ nPane G a2 r2))) dX4_init_23 (by decide) (Nat.le_of_ble_eq_true rfl) rfl rfl nFX4_16 rfl rfl rfl rfl rfl (Nat.le_of_ble_eq_true rfl) rfl ?_
  refine n_aload_n 0 dX4_init_26 rfl ?_
  refine n_new (ci := 1) (fs := [.null, .null, .null, .null, .null, .null, .null, .null, .null, .null, .null, .null, .null, .null, .null, .int 0, .int 0]) dX4_init_27 (by decide) nClX4_9 nIns_1 nIni_1 (by decide) (Nat.le_of_ble_eq_true rfl) (Nat.le_of_ble_eq_true rfl) (fun q3 => ?_)
  refine n_dup dX4_init_30 rfl ?_
  refine n_ctor (wr := ((h, .inr (4, [.ref (a1 0), .ref (a2 0), .null, .int 0, .null, .null, .null, .int 0, .int 0])) :: (nPane G a1 r1 ++ nPane G a2 r2))) (wc := [(q3, .inr (1, [.null, .null, .null, .null, .null, .null, .null, .null, .null, .null, .null, .null, .null, .null, .null, .int 0, .int 0]))]) dX4_init_31 mX1_init kX1_init (Or.inl nCX4_11) (Nat.le_of_ble_eq_true rfl) rfl (Nat.le_of_ble_eq_true rfl) (Nat.le_of_ble_eq_true rfl) (Nat.le_of_ble_eq_true rfl) (fun w3 hw3 => ?_)
  obtain ⟨a3, r3, e3, rfl⟩ := hw3
  subst e3
  refine ncong (w2 := ((h, .inr (4, [.ref (a1 0), .ref (a2 0), .null, .int 0, .null, .null, .null, .int 0, .int 0])) :: ((nPane G a1 r1 ++ nPane G a2 r2) ++ nPane G a3 r3))) rfl ?_
  refine n_putF (ci := 4) (kf := 2) (q0 := 0) (w2 := ((h, .inr (4, [.ref (a1 0), .ref (a2 0), .ref (a3 0), .int 0, .null, .null, .null, .int 0, .int 0])) :: ((nPane G a1 r1 ++ nPane G a2 r2) ++ nPane G a3 r3))) dX4_init_34 (by decide) (Nat.le_of_ble_eq_true rfl) rfl rfl nFX4_19 rfl rfl rfl rfl rfl (Nat.le_of_ble_eq_true rfl) rfl ?_
  refine n_aload_n 0 dX4_init_37 rfl ?_
  refine n_iconst (v := 0) dX4_init_38 (by decide) ?_
  refine n_put (ci := 4) (kf := 3) (q0 := 0) (w2 := ((h, .inr (4, [.ref (a1 0), .ref (a2 0), .ref (a3 0), .int (0), .null, .null, .null, .int 0, .int 0])) :: ((nPane G a1 r1 ++ nPane G a2 r2) ++ nPane G a3 r3))) dX4_init_39 (by decide) (Nat.le_of_ble_eq_true rfl) rfl nFX4_22 rfl rfl rfl rfl (Nat.le_of_ble_eq_true rfl) rfl ?_
  refine n_aload_n 0 dX4_init_42 rfl ?_
  refine n_new (ci := 0) (fs := [.null, .int 0, .int 0]) dX4_init_43 (by decide) nClX4_26 nIns_0 nIni_0 (by decide) (Nat.le_of_ble_eq_true rfl) (Nat.le_of_ble_eq_true rfl) (fun q4 => ?_)
  refine n_dup dX4_init_46 rfl ?_
  refine n_ctor (wr := ((h, .inr (4, [.ref (a1 0), .ref (a2 0), .ref (a3 0), .int (0), .null, .null, .null, .int 0, .int 0])) :: ((nPane G a1 r1 ++ nPane G a2 r2) ++ nPane G a3 r3))) (wc := [(q4, .inr (0, [.null, .int 0, .int 0]))]) dX4_init_47 mX0_init kX0_init (Or.inl nCX4_28) (Nat.le_of_ble_eq_true rfl) rfl (Nat.le_of_ble_eq_true rfl) (Nat.le_of_ble_eq_true rfl) (Nat.le_of_ble_eq_true rfl) (fun w4 hw4 => ?_)
  obtain ⟨s4, a4, r4, rfl⟩ := hw4
  refine ncong (w2 := ((h, .inr (4, [.ref (a1 0), .ref (a2 0), .ref (a3 0), .int (0), .null, .null, .null, .int 0, .int 0])) :: (((nPane G a1 r1 ++ nPane G a2 r2) ++ nPane G a3 r3) ++ nHist G q4 s4 a4 r4))) rfl ?_
  refine n_putF (ci := 4) (kf := 4) (q0 := 0) (w2 := ((h, .inr (4, [.ref (a1 0), .ref (a2 0), .ref (a3 0), .int (0), .ref q4, .null, .null, .int 0, .int 0])) :: (((nPane G a1 r1 ++ nPane G a2 r2) ++ nPane G a3 r3) ++ nHist G q4 s4 a4 r4))) dX4_init_50 (by decide) (Nat.le_of_ble_eq_true rfl) rfl rfl nFX4_29 rfl rfl rfl rfl rfl (Nat.le_of_ble_eq_true rfl) rfl ?_
  refine n_aload_n 0 dX4_init_53 rfl ?_
  refine n_new (ci := 2) (fs := [.null, .int 0, .int 0, .int 0, .null, .null, .null, .null]) dX4_init_54 (by decide) nClX4_33 nIns_2 nIni_2 (by decide) (Nat.le_of_ble_eq_true rfl) (Nat.le_of_ble_eq_true rfl) (fun q5 => ?_)
  refine n_dup dX4_init_57 rfl ?_
  refine n_ctor (wr := ((h, .inr (4, [.ref (a1 0), .ref (a2 0), .ref (a3 0), .int (0), .ref q4, .null, .null, .int 0, .int 0])) :: (((nPane G a1 r1 ++ nPane G a2 r2) ++ nPane G a3 r3) ++ nHist G q4 s4 a4 r4))) (wc := [(q5, .inr (2, [.null, .int 0, .int 0, .int 0, .null, .null, .null, .null]))]) dX4_init_58 mX2_init kX2_init (Or.inr ⟨_, nCX4_35⟩) (Nat.le_of_ble_eq_true rfl) rfl (Nat.le_of_ble_eq_true rfl) (Nat.le_of_ble_eq_true rfl) (Nat.le_of_ble_eq_true rfl) (fun w5 hw5 => ?_)
  obtain ⟨a5, e5, rfl⟩ := hw5
  subst e5
  refine ncong (w2 := ((h, .inr (4, [.ref (a1 0), .ref (a2 0), .ref (a3 0), .int (0), .ref q4, .null, .null, .int 0, .int 0])) :: ((((nPane G a1 r1 ++ nPane G a2 r2) ++ nPane G a3 r3) ++ nHist G q4 s4 a4 r4) ++ nRace G a5))) rfl ?_
  refine n_putF (ci := 4) (kf := 5) (q0 := 0) (w2 := ((h, .inr (4, [.ref (a1 0), .ref (a2 0), .ref (a3 0), .int (0), .ref q4, .ref (a5 0), .null, .int 0, .int 0])) :: ((((nPane G a1 r1 ++ nPane G a2 r2) ++ nPane G a3 r3) ++ nHist G q4 s4 a4 r4) ++ nRace G a5))) dX4_init_61 (by decide) (Nat.le_of_ble_eq_true rfl) rfl rfl nFX4_36 rfl rfl rfl rfl rfl (Nat.le_of_ble_eq_true rfl) rfl ?_
  refine n_aload_n 0 dX4_init_64 rfl ?_
  refine n_new (ci := 3) (fs := [.null, .null]) dX4_init_65 (by decide) nClX4_40 nIns_3 nIni_3 (by decide) (Nat.le_of_ble_eq_true rfl) (Nat.le_of_ble_eq_true rfl) (fun q6 => ?_)
  refine n_dup dX4_init_68 rfl ?_
  refine n_ctor (wr := ((h, .inr (4, [.ref (a1 0), .ref (a2 0), .ref (a3 0), .int (0), .ref q4, .ref (a5 0), .null, .int 0, .int 0])) :: ((((nPane G a1 r1 ++ nPane G a2 r2) ++ nPane G a3 r3) ++ nHist G q4 s4 a4 r4) ++ nRace G a5))) (wc := [(q6, .inr (3, [.null, .null]))]) dX4_init_69 mX3_init kX3_init (Or.inr ⟨_, nCX4_42⟩) (Nat.le_of_ble_eq_true rfl) rfl (Nat.le_of_ble_eq_true rfl) (Nat.le_of_ble_eq_true rfl) (Nat.le_of_ble_eq_true rfl) (fun w6 hw6 => ?_)
  obtain ⟨a6, e6, rfl⟩ := hw6
  subst e6
  refine ncong (w2 := ((h, .inr (4, [.ref (a1 0), .ref (a2 0), .ref (a3 0), .int (0), .ref q4, .ref (a5 0), .null, .int 0, .int 0])) :: (((((nPane G a1 r1 ++ nPane G a2 r2) ++ nPane G a3 r3) ++ nHist G q4 s4 a4 r4) ++ nRace G a5) ++ nWays G a6))) rfl ?_
  refine n_putF (ci := 4) (kf := 6) (q0 := 0) (w2 := ((h, .inr (4, [.ref (a1 0), .ref (a2 0), .ref (a3 0), .int (0), .ref q4, .ref (a5 0), .ref (a6 0), .int 0, .int 0])) :: (((((nPane G a1 r1 ++ nPane G a2 r2) ++ nPane G a3 r3) ++ nHist G q4 s4 a4 r4) ++ nRace G a5) ++ nWays G a6))) dX4_init_72 (by decide) (Nat.le_of_ble_eq_true rfl) rfl rfl nFX4_43 rfl rfl rfl rfl rfl (Nat.le_of_ble_eq_true rfl) rfl ?_
  refine n_aload_n 0 dX4_init_75 rfl ?_
  refine n_bipush (v := Int32.ofInt (-5)) dX4_init_76 (by decide) ?_
  refine n_put (ci := 4) (kf := 7) (q0 := 0) (w2 := ((h, .inr (4, [.ref (a1 0), .ref (a2 0), .ref (a3 0), .int (0), .ref q4, .ref (a5 0), .ref (a6 0), .int (Int32.ofInt (-5)), .int 0])) :: (((((nPane G a1 r1 ++ nPane G a2 r2) ++ nPane G a3 r3) ++ nHist G q4 s4 a4 r4) ++ nRace G a5) ++ nWays G a6))) dX4_init_78 (by decide) (Nat.le_of_ble_eq_true rfl) rfl nFX4_47 rfl rfl rfl rfl (Nat.le_of_ble_eq_true rfl) rfl ?_
  refine n_aload_n 0 dX4_init_81 rfl ?_
  refine n_bipush (v := Int32.ofInt (-5)) dX4_init_82 (by decide) ?_
  refine n_put (ci := 4) (kf := 8) (q0 := 0) (w2 := ((h, .inr (4, [.ref (a1 0), .ref (a2 0), .ref (a3 0), .int (0), .ref q4, .ref (a5 0), .ref (a6 0), .int (Int32.ofInt (-5)), .int (Int32.ofInt (-5))])) :: (((((nPane G a1 r1 ++ nPane G a2 r2) ++ nPane G a3 r3) ++ nHist G q4 s4 a4 r4) ++ nRace G a5) ++ nWays G a6))) dX4_init_84 (by decide) (Nat.le_of_ble_eq_true rfl) rfl nFX4_51 rfl rfl rfl rfl (Nat.le_of_ble_eq_true rfl) rfl ?_
  exact n_vret dX4_init_87 rfl rfl rfl ⟨(fun j : Nat => (match j with | 0 => a1 | 1 => a2 | 2 => a3 | i + 3 => a4 i : Nat → Nat)), (fun j : Nat => (match j with | 0 => r1 | 1 => r2 | 2 => r3 | i + 3 => r4 i : Nat → Nat)), q4, s4, a5, a6, rfl⟩
theorem n_zs0 {j : Nat} (hj : j < 538) : upd (upd (upd (upd (nFf (fun _ => 0) 4 120) 531 6) 532 2) 533 5) 534 4 j = Int32.ofInt (zs0 (j : Int)) := by
  unfold upd nFf zs0
  by_cases h1 : j < 120
  · rw [if_neg (by omega), if_neg (by omega), if_neg (by omega), if_neg (by omega), if_pos h1, if_pos (by omega)]
    rfl
  · rw [if_neg (show ¬ (j : Int) < 120 by omega), if_neg h1]
    by_cases h2 : j = 531
    · subst h2; rfl
    · by_cases h3 : j = 532
      · subst h3; rfl
      · by_cases h4 : j = 533
        · subst h4; rfl
        · by_cases h5 : j = 534
          · subst h5; rfl
          · rw [if_neg (by omega), if_neg (by omega), if_neg (by omega), if_neg (by omega), if_neg (by omega), if_neg (by omega), if_neg (by omega), if_neg (by omega)]
            rfl
/-- a new model: itself at a 0, its arrays at a 1 .. a 7 -/
def nModel (G : zG) (a : Nat → Nat) : va_W := (a 0, .inr (5, [.ref (a 1), .ref (a 2), .ref (a 3), .int 0, .ref (a 4), .int 0, .ref (a 5), .int 0, .int 0, .int 0, .int 0, .int 0, .int 0, .int 0, .int 0, .int 0, .int 0, .ref (a 6), .ref (a 7)])) :: (a 1, .inl (G.2.2.1 0, 538, .inl (fun j => Int32.ofInt (zs0 (j : Int))))) :: nIn G (a 2) 538 0 :: nIn G (a 3) 2152 0 :: nIn G (a 4) 538 0 :: (a 5, .inl (G.2.2.1 1, 60, .inl (fun _ => 0))) :: nIn G (a 6) 6 0 :: [nIn G (a 7) 6 0]
