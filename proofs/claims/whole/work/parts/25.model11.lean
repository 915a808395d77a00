theorem vX5_things {G : zG} {M : zM} {σ : zS} (hX : zTx M) : zCall G yX5_things YX5_things [.inr (some 187)] (zt M σ) (fun v M' => ∃ (N : zM) (r : Int), v = some (.inl r) ∧ M' = zt N σ ∧ zPk M N ∧ N 187 11 = (pR (M 192) (M 187 7) 0 0).1.2 ∧ ((pR (M 192) (M 187 7) 0 0).1.1 = 0 → r = (pR (M 192) (M 187 7) 0 0).2 ∧ N 187 12 = 0) ∧ (¬ (pR (M 192) (M 187 7) 0 0).1.1 = 0 → r = -5)) := by
  refine zEnter (by decide +kernel) rfl (Nat.le_of_ble_eq_true rfl) ?_
  have hn := hX.1
  have hT := hX.2
  refine z_aload_n dX5_things_0 rfl ?_
  refine z_iconst dX5_things_1 ?_
  refine z_oput (kI := 11) dX5_things_2 fX5_116 rfl (Or.inl rfl) (by decide) (by decide) zsh187 rfl rfl (fun N2 hN2 => ?_)
  refine z_aload_n dX5_things_5 rfl ?_
  refine z_iconst dX5_things_6 ?_
  refine z_oput (kI := 12) dX5_things_7 fX5_119 rfl (Or.inr ⟨rfl, by omega⟩) (by decide) (by decide) zsh187 rfl rfl (fun N7 hN7 => ?_)
  refine z_iconst dX5_things_10 ?_
  refine z_istore_n dX5_things_11 (by decide) ?_
  refine z_iconst dX5_things_12 ?_
  refine z_istore_n dX5_things_13 (by decide) ?_
  have k7 : zPk M N7 := by rw [hN7, hN2]; exact ((zPk.rf M).up (by omega)).up (by omega)
  have J : ∀ (k : Int) (N : zM), zPk M N → N 187 12 = (pR (M 192) (M 187 7) 0 0).1.1 → N 187 11 = (pR (M 192) (M 187 7) 0 0).1.2 → k = (pR (M 192) (M 187 7) 0 0).2 → (N 187 12 = 0 ∨ N 187 12 = 1) → zW G YX5_things (fun v M' => ∃ (N : zM) (r : Int), v = some (.inl r) ∧ M' = zt N σ ∧ zPk M N ∧ N 187 11 = (pR (M 192) (M 187 7) 0 0).1.2 ∧ ((pR (M 192) (M 187 7) 0 0).1.1 = 0 → r = (pR (M 192) (M 187 7) 0 0).2 ∧ N 187 12 = 0) ∧ (¬ (pR (M 192) (M 187 7) 0 0).1.1 = 0 → r = -5)) 14 [(2, .inl 0), (1, .inl k), (0, .inr (some 187))] [] (zt N σ) := by
    intro k N hk h12 h11 hkk hw
    refine z_iload_n dX5_things_14 rfl ?_
    refine z_if_eq (tgt := 75) dX5_things_15 (by decide) (by omega) (fun c15 => ?_) (fun h => absurd h (by omega))
    refine z_aload_n dX5_things_75 rfl ?_
    refine z_oget (kI := 12) dX5_things_76 fX5_119 (by decide) (by decide) zsh187 rfl rfl ?_
    refine z_if_eq (tgt := 87) dX5_things_79 (by decide) (by omega) (fun c79 => ?_) (fun c79 => ?_)
    · refine z_iload_n dX5_things_87 rfl ?_
      refine z_iret dX5_things_88 rfl ?_
      refine ⟨N, _, rfl, rfl, hk, h11, fun q => ?_, fun q => ?_⟩
      · first | exact ⟨by omega, by omega⟩ | (exfalso; omega)
      · first | rfl | (exfalso; omega)
    · refine z_bipush dX5_things_82 (by decide) ?_
      refine z_goto (tgt := 88) dX5_things_84 (by decide) ?_
      refine z_iret dX5_things_88 rfl ?_
      refine ⟨N, _, rfl, rfl, hk, h11, fun q => ?_, fun q => ?_⟩
      · first | exact ⟨by omega, by omega⟩ | (exfalso; omega)
      · first | rfl | (exfalso; omega)
  have L : ∀ (n : Nat) (k : Int) (N : zM), zPk M N → N 187 12 = 0 → (0 ≤ N 187 11 ∧ N 187 11 ≤ M 187 7) → M 187 7 + 1 ≤ N 187 11 + n → pR (M 192) (M 187 7) (N 187 11) k = (pR (M 192) (M 187 7) 0 0) → zW G YX5_things (fun v M' => ∃ (N : zM) (r : Int), v = some (.inl r) ∧ M' = zt N σ ∧ zPk M N ∧ N 187 11 = (pR (M 192) (M 187 7) 0 0).1.2 ∧ ((pR (M 192) (M 187 7) 0 0).1.1 = 0 → r = (pR (M 192) (M 187 7) 0 0).2 ∧ N 187 12 = 0) ∧ (¬ (pR (M 192) (M 187 7) 0 0).1.1 = 0 → r = -5)) 14 [(2, .inl 1), (1, .inl k), (0, .inr (some 187))] [] (zt N σ) := by
    intro n
    induction n with
    | zero => intro k N hk h12 h11 hin he; exfalso; omega
    | succ n ih =>
      intro k N hk h12 h11 hin he
      have T0 : N 192 = M 192 := hk.1 192 (by decide)
      have n0 : N 187 7 = M 187 7 := hk.2 7 (by omega)
      refine z_iload_n dX5_things_14 rfl ?_
      refine z_if_eq (tgt := 75) dX5_things_15 (by decide) (by omega) (fun h => absurd h (by omega)) (fun c15 => ?_)
      refine z_aload_n dX5_things_18 rfl ?_
      refine z_callV mX5_thing (vX5_thing (hX.k hk) (by omega) h12) rfl dX5_things_19 kX5_146 (by decide) rfl (by show _ ≤ 8; simp) (by decide) zsh187 (by decide) rfl (fun v19 M19 q19 => ?_)
      obtain ⟨rfl, N19, rfl, hk19, ha19, hb19, hv19⟩ := q19
      try simp only [zpush]
      rw [T0, n0] at ha19 hb19
      have k19 : zPk M N19 := hk.tr hk19
      have T19 : N19 192 = M 192 := k19.1 192 (by decide)
      have n19 : N19 187 7 = M 187 7 := k19.2 7 (by omega)
      have htr := pT_r (T := M 192) (n := M 187 7) (i := N 187 11) (by omega)
      rw [pR_step h11] at he
      refine z_iinc dX5_things_22 rfl (by decide) ?_
      refine z_aload_n dX5_things_25 rfl ?_
      refine z_oget (kI := 12) dX5_things_26 fX5_119 (by decide) (by decide) zsh187 rfl rfl ?_
      refine z_if_ne (tgt := 47) dX5_things_29 (by decide) (by omega) (fun c29 => ?_) (fun c29 => ?_)
      · refine z_iconst dX5_things_47 ?_
        refine z_istore_n dX5_things_48 (by decide) ?_
        refine z_iload_n dX5_things_49 rfl ?_
        refine z_if_eq (tgt := 14) dX5_things_50 (by decide) (by decide) (fun _ => ?_) (fun h => absurd h (by decide))
        first
          | exact zsub' (J _ N56 k56 (by rw [← he, hr56 (by omega)]) (by rw [← he, hr56 (by omega)]) (by rw [← he, hr56 (by omega)]) (by omega)) ⟨rfl, rfl, rfl, trivial⟩
          | exact zsub' (ih _ N56 k56 (by omega) (by omega) (by omega) (by rw [← he, if_pos (by omega), if_pos (by omega), hb56])) ⟨rfl, rfl, rfl, trivial⟩
          | exact zsub' (J _ N19 k19 (by rw [← he, if_neg (by omega), ha19]) (by rw [← he, if_neg (by omega), hb19]) (by rw [← he, if_neg (by omega)]) (by omega)) ⟨rfl, rfl, rfl, trivial⟩
      · refine z_aload_n dX5_things_32 rfl ?_
        refine z_oget (kI := 11) dX5_things_33 fX5_116 (by decide) (by decide) zsh187 rfl rfl ?_
        refine z_aload_n dX5_things_36 rfl ?_
        refine z_oget (kI := 7) dX5_things_37 fX5_113 (by decide) (by decide) zsh187 rfl rfl ?_
        refine z_icmp_ge (tgt := 47) dX5_things_40 (by decide) (by omega) (by omega) (fun c40 => ?_) (fun c40 => ?_)
        · refine z_iconst dX5_things_47 ?_
          refine z_istore_n dX5_things_48 (by decide) ?_
          refine z_iload_n dX5_things_49 rfl ?_
          refine z_if_eq (tgt := 14) dX5_things_50 (by decide) (by decide) (fun _ => ?_) (fun h => absurd h (by decide))
          first
            | exact zsub' (J _ N56 k56 (by rw [← he, hr56 (by omega)]) (by rw [← he, hr56 (by omega)]) (by rw [← he, hr56 (by omega)]) (by omega)) ⟨rfl, rfl, rfl, trivial⟩
            | exact zsub' (ih _ N56 k56 (by omega) (by omega) (by omega) (by rw [← he, if_pos (by omega), if_pos (by omega), hb56])) ⟨rfl, rfl, rfl, trivial⟩
            | exact zsub' (J _ N19 k19 (by rw [← he, if_neg (by omega), ha19]) (by rw [← he, if_neg (by omega), hb19]) (by rw [← he, if_neg (by omega)]) (by omega)) ⟨rfl, rfl, rfl, trivial⟩
        · refine z_iconst dX5_things_43 ?_
          refine z_goto (tgt := 48) dX5_things_44 (by decide) ?_
          refine z_istore_n dX5_things_48 (by decide) ?_
          refine z_iload_n dX5_things_49 rfl ?_
          refine z_if_eq (tgt := 14) dX5_things_50 (by decide) (by decide) (fun h => absurd h (by decide)) (fun _ => ?_)
          refine z_aload_n dX5_things_53 rfl ?_
          refine z_bipush dX5_things_54 (by decide) ?_
          refine z_callV mX5_sign (vX5_sign (hX.k k19) (by omega) (by omega) (by omega)) rfl dX5_things_56 kX5_136 (by decide) rfl (by show _ ≤ 8; simp) (by decide) zsh187 (by decide) rfl (fun v56 M56 q56 => ?_)
          obtain ⟨rfl, N56, rfl, hk56, hj56, ha56, hb56⟩ := q56
          try simp only [zpush]
          rw [T19, n19, ha19, hb19] at ha56 hb56
          replace ha56 : N56 187 12 = (pS (M 192) (M 187 7) 59 (pT (M 192) (M 187 7) (N 187 11))).1 := ha56
          replace hb56 : N56 187 11 = (pS (M 192) (M 187 7) 59 (pT (M 192) (M 187 7) (N 187 11))).2 := hb56
          have k56 : zPk M N56 := k19.tr hk56
          have hsr := pS_r (T := M 192) (n := M 187 7) (c := 59) (x := pT (M 192) (M 187 7) (N 187 11)) (by omega) (by omega)
          have hr56 : ¬ N56 187 12 = 0 → (if (pT (M 192) (M 187 7) (N 187 11)).1 = 0 ∧ (pT (M 192) (M 187 7) (N 187 11)).2 < M 187 7 then (if (pS (M 192) (M 187 7) 59 (pT (M 192) (M 187 7) (N 187 11))).1 = 0 then pR (M 192) (M 187 7) (pS (M 192) (M 187 7) 59 (pT (M 192) (M 187 7) (N 187 11))).2 (k + 1) else (pS (M 192) (M 187 7) 59 (pT (M 192) (M 187 7) (N 187 11)), k + 1)) else (pT (M 192) (M 187 7) (N 187 11), k + 1)) = ((N56 187 12, N56 187 11), k + 1) := fun q => by rw [if_pos (by omega), if_neg (by rw [ha56] at q; exact q), ha56, hb56]
          refine z_aload_n dX5_things_59 rfl ?_
          refine z_oget (kI := 12) dX5_things_60 fX5_119 (by decide) (by decide) zsh187 rfl rfl ?_
          refine z_if_ne (tgt := 70) dX5_things_63 (by decide) (by omega) (fun c63 => ?_) (fun c63 => ?_)
          · refine z_iconst dX5_things_70 ?_
            refine z_istore_n dX5_things_71 (by decide) ?_
            refine z_goto (tgt := 14) dX5_things_72 (by decide) ?_
            first
              | exact zsub' (J _ N56 k56 (by rw [← he, hr56 (by omega)]) (by rw [← he, hr56 (by omega)]) (by rw [← he, hr56 (by omega)]) (by omega)) ⟨rfl, rfl, rfl, trivial⟩
              | exact zsub' (ih _ N56 k56 (by omega) (by omega) (by omega) (by rw [← he, if_pos (by omega), if_pos (by omega), hb56])) ⟨rfl, rfl, rfl, trivial⟩
              | exact zsub' (J _ N19 k19 (by rw [← he, if_neg (by omega), ha19]) (by rw [← he, if_neg (by omega), hb19]) (by rw [← he, if_neg (by omega)]) (by omega)) ⟨rfl, rfl, rfl, trivial⟩
          · refine z_iconst dX5_things_66 ?_
            refine z_goto (tgt := 71) dX5_things_67 (by decide) ?_
            refine z_istore_n dX5_things_71 (by decide) ?_
            refine z_goto (tgt := 14) dX5_things_72 (by decide) ?_
            first
              | exact zsub' (J _ N56 k56 (by rw [← he, hr56 (by omega)]) (by rw [← he, hr56 (by omega)]) (by rw [← he, hr56 (by omega)]) (by omega)) ⟨rfl, rfl, rfl, trivial⟩
              | exact zsub' (ih _ N56 k56 (by omega) (by omega) (by omega) (by rw [← he, if_pos (by omega), if_pos (by omega), hb56])) ⟨rfl, rfl, rfl, trivial⟩
              | exact zsub' (J _ N19 k19 (by rw [← he, if_neg (by omega), ha19]) (by rw [← he, if_neg (by omega), hb19]) (by rw [← he, if_neg (by omega)]) (by omega)) ⟨rfl, rfl, rfl, trivial⟩
  exact zsub' (L (M 187 7 + 1).toNat 0 N7 k7 (by rw [hN7, zm_up_at]) (by rw [hN7, zm_up_ne (by decide), hN2, zm_up_at]; omega) (by rw [hN7, zm_up_ne (by decide), hN2, zm_up_at]; omega) (by rw [hN7, zm_up_ne (by decide), hN2, zm_up_at])) ⟨rfl, rfl, rfl, trivial⟩

theorem vX5_doesThing {G : zG} {M : zM} {σ : zS} (hB : zB σ) (hr13 : M 187 13 = 115 ∨ M 187 13 = 102 ∨ M 187 13 = 46) (hr14 : 0 ≤ M 187 14 ∧ M 187 14 ≤ 99) (hr15 : ¬ M 187 13 = 46 → 0 ≤ M 187 15 ∧ M 187 15 ≤ 99) (hr16 : M 187 13 = 102 → 0 ≤ M 187 16 ∧ M 187 16 ≤ 99) : zCall G yX5_doesThing YX5_doesThing [.inr (some 187)] (zt M σ) (fun v M' => ∃ (r : Int) (ρ : zS), v = some (.inl r) ∧ M' = zt M ρ ∧ ((sBarK σ (M 187 13) (M 187 14) (M 187 15) (M 187 16) = 0 ∧ r = 0 ∧ ρ = sEff σ (M 187 13) (M 187 14) (M 187 15) (M 187 16)) ∨ (sBarK σ (M 187 13) (M 187 14) (M 187 15) (M 187 16) = -5 ∧ r = 0 ∧ ρ = σ) ∨ (¬ sBarK σ (M 187 13) (M 187 14) (M 187 15) (M 187 16) = 0 ∧ ¬ sBarK σ (M 187 13) (M 187 14) (M 187 15) (M 187 16) = -5 ∧ r = sBarK σ (M 187 13) (M 187 14) (M 187 15) (M 187 16) ∧ ρ = σ))) := by
  refine zEnter (by decide +kernel) rfl (Nat.le_of_ble_eq_true rfl) ?_
  obtain ⟨hA, h8, h6⟩ := hB
  have hI := hA.1
  have hs9 := hI.1
  unfold zIs at hs9
  have hbr := sBarK_r σ (M 187 13) (M 187 14) (M 187 15) (M 187 16)
  have hBS : M 187 13 = 115 → sBarS σ (M 187 14) (M 187 15) = sBarK σ (M 187 13) (M 187 14) (M 187 15) (M 187 16) := fun q => by unfold sBarK; rw [if_pos q]
  have hBF : M 187 13 = 102 → sBarF σ (M 187 14) (M 187 15) (M 187 16) = sBarK σ (M 187 13) (M 187 14) (M 187 15) (M 187 16) := fun q => by unfold sBarK; rw [if_neg (by omega), if_pos q]
  have hBT : M 187 13 = 46 → sBarT σ (M 187 14) = sBarK σ (M 187 13) (M 187 14) (M 187 15) (M 187 16) := fun q => by unfold sBarK; rw [if_neg (by omega), if_neg (by omega)]
  obtain ⟨B, hBB⟩ : ∃ B : Int, B = sBarK σ (M 187 13) (M 187 14) (M 187 15) (M 187 16) := ⟨_, rfl⟩
  rw [← hBB] at hbr hBS hBF hBT
  have hb1 := fun h => sBarS_0 (σ := σ) (lane := M 187 14) (slime := M 187 15) h
  have hb2 := fun h => sBarF_0 (σ := σ) (lane := M 187 14) (row := M 187 15) (f := M 187 16) h
  have hb3 := fun h => sBarT_0 (σ := σ) (t := M 187 14) h
  rcases hr13 with hc | hc | hc
  · have hE : sBarS σ (M 187 14) (M 187 15) = B := hBS hc
    rw [hE] at hb1
    refine z_aload_n dX5_doesThing_0 rfl ?_
    refine z_oget (kI := 13) dX5_doesThing_1 fX5_127 (by decide) (by decide) zsh187 rfl rfl ?_
    refine z_bipush dX5_doesThing_4 (by decide) ?_
    refine z_icmp_ne (tgt := 24) dX5_doesThing_6 (by decide) (by omega) (by omega) (fun h => absurd h (by omega)) (fun c6 => ?_)
    refine z_aload_n dX5_doesThing_9 rfl ?_
    refine z_aload_n dX5_doesThing_10 rfl ?_
    refine z_oget (kI := 14) dX5_doesThing_11 fX5_133 (by decide) (by decide) zsh187 rfl rfl ?_
    refine z_aload_n dX5_doesThing_14 rfl ?_
    refine z_oget (kI := 15) dX5_doesThing_15 fX5_140 (by decide) (by decide) zsh187 rfl rfl ?_
    refine z_callV mX5_barSnail (vX5_barSnail (by omega) (by omega) hI) rfl dX5_doesThing_18 kX5_54 (by decide) rfl (by show _ ≤ 8; simp) (by decide) zsh187 (by decide) rfl (fun v18 M18 q18 => ?_)
    obtain ⟨rfl, rfl⟩ := q18
    try simp only [zpush]
    refine z_goto (tgt := 60) dX5_doesThing_21 (by decide) ?_
    rw [hE]
    refine z_istore_n dX5_doesThing_60 (by decide) ?_
    refine z_iload_n dX5_doesThing_61 rfl ?_
    refine z_if_ne (tgt := 126) dX5_doesThing_62 (by decide) (by omega) (fun c62 => ?_) (fun c62 => ?_)
    · refine z_iload_n dX5_doesThing_126 rfl ?_
      refine z_bipush dX5_doesThing_127 (by decide) ?_
      refine z_icmp_ne (tgt := 136) dX5_doesThing_129 (by decide) (by omega) (by omega) (fun c129 => ?_) (fun c129 => ?_)
      · refine z_iload_n dX5_doesThing_136 rfl ?_
        refine z_iret dX5_doesThing_137 rfl ?_
        rw [← hBB]
        first
          | exact ⟨_, _, rfl, rfl, Or.inl ⟨by omega, by omega, by unfold sEff; exact (if_pos hc).symm⟩⟩
          | exact ⟨_, _, rfl, rfl, Or.inl ⟨by omega, by omega, by unfold sEff; exact ((if_neg (by omega)).trans (if_pos hc)).symm⟩⟩
          | exact ⟨_, _, rfl, rfl, Or.inl ⟨by omega, by omega, by unfold sEff; exact ((if_neg (by omega)).trans (if_neg (by omega))).symm⟩⟩
          | exact ⟨_, _, rfl, rfl, Or.inr (Or.inl ⟨by omega, rfl, rfl⟩)⟩
          | exact ⟨_, _, rfl, rfl, Or.inr (Or.inr ⟨by omega, by omega, rfl, rfl⟩)⟩
          | (exfalso; omega)
      · refine z_iconst dX5_doesThing_132 ?_
        refine z_goto (tgt := 137) dX5_doesThing_133 (by decide) ?_
        refine z_iret dX5_doesThing_137 rfl ?_
        rw [← hBB]
        first
          | exact ⟨_, _, rfl, rfl, Or.inl ⟨by omega, by omega, by unfold sEff; exact (if_pos hc).symm⟩⟩
          | exact ⟨_, _, rfl, rfl, Or.inl ⟨by omega, by omega, by unfold sEff; exact ((if_neg (by omega)).trans (if_pos hc)).symm⟩⟩
          | exact ⟨_, _, rfl, rfl, Or.inl ⟨by omega, by omega, by unfold sEff; exact ((if_neg (by omega)).trans (if_neg (by omega))).symm⟩⟩
          | exact ⟨_, _, rfl, rfl, Or.inr (Or.inl ⟨by omega, rfl, rfl⟩)⟩
          | exact ⟨_, _, rfl, rfl, Or.inr (Or.inr ⟨by omega, by omega, rfl, rfl⟩)⟩
          | (exfalso; omega)
    · have hb9 := hb1 (by omega)
      refine z_aload_n dX5_doesThing_65 rfl ?_
      refine z_oget (kI := 13) dX5_doesThing_66 fX5_127 (by decide) (by decide) zsh187 rfl rfl ?_
      refine z_bipush dX5_doesThing_69 (by decide) ?_
      refine z_icmp_ne (tgt := 89) dX5_doesThing_71 (by decide) (by omega) (by omega) (fun h => absurd h (by omega)) (fun c71 => ?_)
      refine z_aload_n dX5_doesThing_74 rfl ?_
      refine z_aload_n dX5_doesThing_75 rfl ?_
      refine z_oget (kI := 14) dX5_doesThing_76 fX5_133 (by decide) (by decide) zsh187 rfl rfl ?_
      refine z_aload_n dX5_doesThing_79 rfl ?_
      refine z_oget (kI := 15) dX5_doesThing_80 fX5_140 (by decide) (by decide) zsh187 rfl rfl ?_
      refine z_callV mX5_comes (vX5_comes (by omega)) rfl dX5_doesThing_83 kX5_60 (by decide) rfl (by show _ ≤ 8; simp) (by decide) zsh187 (by decide) rfl (fun v83 M83 q83 => ?_)
      obtain ⟨rfl, rfl⟩ := q83
      try simp only [zpush]
      refine z_goto (tgt := 125) dX5_doesThing_86 (by decide) ?_
      refine z_istore_n dX5_doesThing_125 (by decide) ?_
      refine z_iload_n dX5_doesThing_126 rfl ?_
      refine z_bipush dX5_doesThing_127 (by decide) ?_
      refine z_icmp_ne (tgt := 136) dX5_doesThing_129 (by decide) (by omega) (by omega) (fun c129 => ?_) (fun c129 => ?_)
      · refine z_iload_n dX5_doesThing_136 rfl ?_
        refine z_iret dX5_doesThing_137 rfl ?_
        rw [← hBB]
        first
          | exact ⟨_, _, rfl, rfl, Or.inl ⟨by omega, by omega, by unfold sEff; exact (if_pos hc).symm⟩⟩
          | exact ⟨_, _, rfl, rfl, Or.inl ⟨by omega, by omega, by unfold sEff; exact ((if_neg (by omega)).trans (if_pos hc)).symm⟩⟩
          | exact ⟨_, _, rfl, rfl, Or.inl ⟨by omega, by omega, by unfold sEff; exact ((if_neg (by omega)).trans (if_neg (by omega))).symm⟩⟩
          | exact ⟨_, _, rfl, rfl, Or.inr (Or.inl ⟨by omega, rfl, rfl⟩)⟩
          | exact ⟨_, _, rfl, rfl, Or.inr (Or.inr ⟨by omega, by omega, rfl, rfl⟩)⟩
          | (exfalso; omega)
      · refine z_iconst dX5_doesThing_132 ?_
        refine z_goto (tgt := 137) dX5_doesThing_133 (by decide) ?_
        refine z_iret dX5_doesThing_137 rfl ?_
        rw [← hBB]
        first
          | exact ⟨_, _, rfl, rfl, Or.inl ⟨by omega, by omega, by unfold sEff; exact (if_pos hc).symm⟩⟩
          | exact ⟨_, _, rfl, rfl, Or.inl ⟨by omega, by omega, by unfold sEff; exact ((if_neg (by omega)).trans (if_pos hc)).symm⟩⟩
          | exact ⟨_, _, rfl, rfl, Or.inl ⟨by omega, by omega, by unfold sEff; exact ((if_neg (by omega)).trans (if_neg (by omega))).symm⟩⟩
          | exact ⟨_, _, rfl, rfl, Or.inr (Or.inl ⟨by omega, rfl, rfl⟩)⟩
          | exact ⟨_, _, rfl, rfl, Or.inr (Or.inr ⟨by omega, by omega, rfl, rfl⟩)⟩
          | (exfalso; omega)
  · have hE : sBarF σ (M 187 14) (M 187 15) (M 187 16) = B := hBF hc
    rw [hE] at hb2
    refine z_aload_n dX5_doesThing_0 rfl ?_
    refine z_oget (kI := 13) dX5_doesThing_1 fX5_127 (by decide) (by decide) zsh187 rfl rfl ?_
    refine z_bipush dX5_doesThing_4 (by decide) ?_
    refine z_icmp_ne (tgt := 24) dX5_doesThing_6 (by decide) (by omega) (by omega) (fun c6 => ?_) (fun h => absurd h (by omega))
    refine z_aload_n dX5_doesThing_24 rfl ?_
    refine z_oget (kI := 13) dX5_doesThing_25 fX5_127 (by decide) (by decide) zsh187 rfl rfl ?_
    refine z_bipush dX5_doesThing_28 (by decide) ?_
    refine z_icmp_ne (tgt := 52) dX5_doesThing_30 (by decide) (by omega) (by omega) (fun h => absurd h (by omega)) (fun c30 => ?_)
    refine z_aload_n dX5_doesThing_33 rfl ?_
    refine z_aload_n dX5_doesThing_34 rfl ?_
    refine z_oget (kI := 14) dX5_doesThing_35 fX5_133 (by decide) (by decide) zsh187 rfl rfl ?_
    refine z_aload_n dX5_doesThing_38 rfl ?_
    refine z_oget (kI := 15) dX5_doesThing_39 fX5_140 (by decide) (by decide) zsh187 rfl rfl ?_
    refine z_aload_n dX5_doesThing_42 rfl ?_
    refine z_oget (kI := 16) dX5_doesThing_43 fX5_143 (by decide) (by decide) zsh187 rfl rfl ?_
    refine z_callV mX5_barFrost (vX5_barFrost (by omega) (by omega) (by omega) hI) rfl dX5_doesThing_46 kX5_73 (by decide) rfl (by show _ ≤ 8; simp) (by decide) zsh187 (by decide) rfl (fun v46 M46 q46 => ?_)
    obtain ⟨rfl, rfl⟩ := q46
    try simp only [zpush]
    refine z_goto (tgt := 60) dX5_doesThing_49 (by decide) ?_
    rw [hE]
    refine z_istore_n dX5_doesThing_60 (by decide) ?_
    refine z_iload_n dX5_doesThing_61 rfl ?_
    refine z_if_ne (tgt := 126) dX5_doesThing_62 (by decide) (by omega) (fun c62 => ?_) (fun c62 => ?_)
    · refine z_iload_n dX5_doesThing_126 rfl ?_
      refine z_bipush dX5_doesThing_127 (by decide) ?_
      refine z_icmp_ne (tgt := 136) dX5_doesThing_129 (by decide) (by omega) (by omega) (fun c129 => ?_) (fun c129 => ?_)
      · refine z_iload_n dX5_doesThing_136 rfl ?_
        refine z_iret dX5_doesThing_137 rfl ?_
        rw [← hBB]
        first
          | exact ⟨_, _, rfl, rfl, Or.inl ⟨by omega, by omega, by unfold sEff; exact (if_pos hc).symm⟩⟩
          | exact ⟨_, _, rfl, rfl, Or.inl ⟨by omega, by omega, by unfold sEff; exact ((if_neg (by omega)).trans (if_pos hc)).symm⟩⟩
          | exact ⟨_, _, rfl, rfl, Or.inl ⟨by omega, by omega, by unfold sEff; exact ((if_neg (by omega)).trans (if_neg (by omega))).symm⟩⟩
          | exact ⟨_, _, rfl, rfl, Or.inr (Or.inl ⟨by omega, rfl, rfl⟩)⟩
          | exact ⟨_, _, rfl, rfl, Or.inr (Or.inr ⟨by omega, by omega, rfl, rfl⟩)⟩
          | (exfalso; omega)
      · refine z_iconst dX5_doesThing_132 ?_
        refine z_goto (tgt := 137) dX5_doesThing_133 (by decide) ?_
        refine z_iret dX5_doesThing_137 rfl ?_
        rw [← hBB]
        first
          | exact ⟨_, _, rfl, rfl, Or.inl ⟨by omega, by omega, by unfold sEff; exact (if_pos hc).symm⟩⟩
          | exact ⟨_, _, rfl, rfl, Or.inl ⟨by omega, by omega, by unfold sEff; exact ((if_neg (by omega)).trans (if_pos hc)).symm⟩⟩
          | exact ⟨_, _, rfl, rfl, Or.inl ⟨by omega, by omega, by unfold sEff; exact ((if_neg (by omega)).trans (if_neg (by omega))).symm⟩⟩
          | exact ⟨_, _, rfl, rfl, Or.inr (Or.inl ⟨by omega, rfl, rfl⟩)⟩
          | exact ⟨_, _, rfl, rfl, Or.inr (Or.inr ⟨by omega, by omega, rfl, rfl⟩)⟩
          | (exfalso; omega)
    · have hb9 := hb2 (by omega)
      refine z_aload_n dX5_doesThing_65 rfl ?_
      refine z_oget (kI := 13) dX5_doesThing_66 fX5_127 (by decide) (by decide) zsh187 rfl rfl ?_
      refine z_bipush dX5_doesThing_69 (by decide) ?_
      refine z_icmp_ne (tgt := 89) dX5_doesThing_71 (by decide) (by omega) (by omega) (fun c71 => ?_) (fun h => absurd h (by omega))
      refine z_aload_n dX5_doesThing_89 rfl ?_
      refine z_oget (kI := 13) dX5_doesThing_90 fX5_127 (by decide) (by decide) zsh187 rfl rfl ?_
      refine z_bipush dX5_doesThing_93 (by decide) ?_
      refine z_icmp_ne (tgt := 117) dX5_doesThing_95 (by decide) (by omega) (by omega) (fun h => absurd h (by omega)) (fun c95 => ?_)
      refine z_aload_n dX5_doesThing_98 rfl ?_
      refine z_aload_n dX5_doesThing_99 rfl ?_
      refine z_oget (kI := 14) dX5_doesThing_100 fX5_133 (by decide) (by decide) zsh187 rfl rfl ?_
      refine z_aload_n dX5_doesThing_103 rfl ?_
      refine z_oget (kI := 15) dX5_doesThing_104 fX5_140 (by decide) (by decide) zsh187 rfl rfl ?_
      refine z_aload_n dX5_doesThing_107 rfl ?_
      refine z_oget (kI := 16) dX5_doesThing_108 fX5_143 (by decide) (by decide) zsh187 rfl rfl ?_
      refine z_callV mX5_freezes (vX5_freezes (by omega) (by omega)) rfl dX5_doesThing_111 kX5_77 (by decide) rfl (by show _ ≤ 8; simp) (by decide) zsh187 (by decide) rfl (fun v111 M111 q111 => ?_)
      obtain ⟨rfl, rfl⟩ := q111
      try simp only [zpush]
      refine z_goto (tgt := 125) dX5_doesThing_114 (by decide) ?_
      refine z_istore_n dX5_doesThing_125 (by decide) ?_
      refine z_iload_n dX5_doesThing_126 rfl ?_
      refine z_bipush dX5_doesThing_127 (by decide) ?_
      refine z_icmp_ne (tgt := 136) dX5_doesThing_129 (by decide) (by omega) (by omega) (fun c129 => ?_) (fun c129 => ?_)
      · refine z_iload_n dX5_doesThing_136 rfl ?_
        refine z_iret dX5_doesThing_137 rfl ?_
        rw [← hBB]
        first
          | exact ⟨_, _, rfl, rfl, Or.inl ⟨by omega, by omega, by unfold sEff; exact (if_pos hc).symm⟩⟩
          | exact ⟨_, _, rfl, rfl, Or.inl ⟨by omega, by omega, by unfold sEff; exact ((if_neg (by omega)).trans (if_pos hc)).symm⟩⟩
          | exact ⟨_, _, rfl, rfl, Or.inl ⟨by omega, by omega, by unfold sEff; exact ((if_neg (by omega)).trans (if_neg (by omega))).symm⟩⟩
          | exact ⟨_, _, rfl, rfl, Or.inr (Or.inl ⟨by omega, rfl, rfl⟩)⟩
          | exact ⟨_, _, rfl, rfl, Or.inr (Or.inr ⟨by omega, by omega, rfl, rfl⟩)⟩
          | (exfalso; omega)
      · refine z_iconst dX5_doesThing_132 ?_
        refine z_goto (tgt := 137) dX5_doesThing_133 (by decide) ?_
        refine z_iret dX5_doesThing_137 rfl ?_
        rw [← hBB]
        first
          | exact ⟨_, _, rfl, rfl, Or.inl ⟨by omega, by omega, by unfold sEff; exact (if_pos hc).symm⟩⟩
          | exact ⟨_, _, rfl, rfl, Or.inl ⟨by omega, by omega, by unfold sEff; exact ((if_neg (by omega)).trans (if_pos hc)).symm⟩⟩
          | exact ⟨_, _, rfl, rfl, Or.inl ⟨by omega, by omega, by unfold sEff; exact ((if_neg (by omega)).trans (if_neg (by omega))).symm⟩⟩
          | exact ⟨_, _, rfl, rfl, Or.inr (Or.inl ⟨by omega, rfl, rfl⟩)⟩
          | exact ⟨_, _, rfl, rfl, Or.inr (Or.inr ⟨by omega, by omega, rfl, rfl⟩)⟩
          | (exfalso; omega)
  · have hE : sBarT σ (M 187 14) = B := hBT hc
    rw [hE] at hb3
    refine z_aload_n dX5_doesThing_0 rfl ?_
    refine z_oget (kI := 13) dX5_doesThing_1 fX5_127 (by decide) (by decide) zsh187 rfl rfl ?_
    refine z_bipush dX5_doesThing_4 (by decide) ?_
    refine z_icmp_ne (tgt := 24) dX5_doesThing_6 (by decide) (by omega) (by omega) (fun c6 => ?_) (fun h => absurd h (by omega))
    refine z_aload_n dX5_doesThing_24 rfl ?_
    refine z_oget (kI := 13) dX5_doesThing_25 fX5_127 (by decide) (by decide) zsh187 rfl rfl ?_
    refine z_bipush dX5_doesThing_28 (by decide) ?_
    refine z_icmp_ne (tgt := 52) dX5_doesThing_30 (by decide) (by omega) (by omega) (fun c30 => ?_) (fun h => absurd h (by omega))
    refine z_aload_n dX5_doesThing_52 rfl ?_
    refine z_aload_n dX5_doesThing_53 rfl ?_
    refine z_oget (kI := 14) dX5_doesThing_54 fX5_133 (by decide) (by decide) zsh187 rfl rfl ?_
    refine z_callV mX5_barPass (vX5_barPass (by omega) (by omega)) rfl dX5_doesThing_57 kX5_107 (by decide) rfl (by show _ ≤ 8; simp) (by decide) zsh187 (by decide) rfl (fun v57 M57 q57 => ?_)
    obtain ⟨rfl, rfl⟩ := q57
    try simp only [zpush]
    rw [hE]
    refine z_istore_n dX5_doesThing_60 (by decide) ?_
    refine z_iload_n dX5_doesThing_61 rfl ?_
    refine z_if_ne (tgt := 126) dX5_doesThing_62 (by decide) (by omega) (fun c62 => ?_) (fun c62 => ?_)
    · refine z_iload_n dX5_doesThing_126 rfl ?_
      refine z_bipush dX5_doesThing_127 (by decide) ?_
      refine z_icmp_ne (tgt := 136) dX5_doesThing_129 (by decide) (by omega) (by omega) (fun c129 => ?_) (fun c129 => ?_)
      · refine z_iload_n dX5_doesThing_136 rfl ?_
        refine z_iret dX5_doesThing_137 rfl ?_
        rw [← hBB]
        first
          | exact ⟨_, _, rfl, rfl, Or.inl ⟨by omega, by omega, by unfold sEff; exact (if_pos hc).symm⟩⟩
          | exact ⟨_, _, rfl, rfl, Or.inl ⟨by omega, by omega, by unfold sEff; exact ((if_neg (by omega)).trans (if_pos hc)).symm⟩⟩
          | exact ⟨_, _, rfl, rfl, Or.inl ⟨by omega, by omega, by unfold sEff; exact ((if_neg (by omega)).trans (if_neg (by omega))).symm⟩⟩
          | exact ⟨_, _, rfl, rfl, Or.inr (Or.inl ⟨by omega, rfl, rfl⟩)⟩
          | exact ⟨_, _, rfl, rfl, Or.inr (Or.inr ⟨by omega, by omega, rfl, rfl⟩)⟩
          | (exfalso; omega)
      · refine z_iconst dX5_doesThing_132 ?_
        refine z_goto (tgt := 137) dX5_doesThing_133 (by decide) ?_
        refine z_iret dX5_doesThing_137 rfl ?_
        rw [← hBB]
        first
          | exact ⟨_, _, rfl, rfl, Or.inl ⟨by omega, by omega, by unfold sEff; exact (if_pos hc).symm⟩⟩
          | exact ⟨_, _, rfl, rfl, Or.inl ⟨by omega, by omega, by unfold sEff; exact ((if_neg (by omega)).trans (if_pos hc)).symm⟩⟩
          | exact ⟨_, _, rfl, rfl, Or.inl ⟨by omega, by omega, by unfold sEff; exact ((if_neg (by omega)).trans (if_neg (by omega))).symm⟩⟩
          | exact ⟨_, _, rfl, rfl, Or.inr (Or.inl ⟨by omega, rfl, rfl⟩)⟩
          | exact ⟨_, _, rfl, rfl, Or.inr (Or.inr ⟨by omega, by omega, rfl, rfl⟩)⟩
          | (exfalso; omega)
    · have hb9 := hb3 (by omega)
      refine z_aload_n dX5_doesThing_65 rfl ?_
      refine z_oget (kI := 13) dX5_doesThing_66 fX5_127 (by decide) (by decide) zsh187 rfl rfl ?_
      refine z_bipush dX5_doesThing_69 (by decide) ?_
      refine z_icmp_ne (tgt := 89) dX5_doesThing_71 (by decide) (by omega) (by omega) (fun c71 => ?_) (fun h => absurd h (by omega))
      refine z_aload_n dX5_doesThing_89 rfl ?_
      refine z_oget (kI := 13) dX5_doesThing_90 fX5_127 (by decide) (by decide) zsh187 rfl rfl ?_
      refine z_bipush dX5_doesThing_93 (by decide) ?_
      refine z_icmp_ne (tgt := 117) dX5_doesThing_95 (by decide) (by omega) (by omega) (fun c95 => ?_) (fun h => absurd h (by omega))
      refine z_aload_n dX5_doesThing_117 rfl ?_
      refine z_aload_n dX5_doesThing_118 rfl ?_
      refine z_oget (kI := 14) dX5_doesThing_119 fX5_133 (by decide) (by decide) zsh187 rfl rfl ?_
      refine z_callV mX5_passes (vX5_passes hA (by omega) (by omega)) rfl dX5_doesThing_122 kX5_110 (by decide) rfl (by show _ ≤ 8; simp) (by decide) zsh187 (by decide) rfl (fun v122 M122 q122 => ?_)
      obtain ⟨rfl, rfl⟩ := q122
      try simp only [zpush]
      refine z_istore_n dX5_doesThing_125 (by decide) ?_
      refine z_iload_n dX5_doesThing_126 rfl ?_
      refine z_bipush dX5_doesThing_127 (by decide) ?_
      refine z_icmp_ne (tgt := 136) dX5_doesThing_129 (by decide) (by omega) (by omega) (fun c129 => ?_) (fun c129 => ?_)
      · refine z_iload_n dX5_doesThing_136 rfl ?_
        refine z_iret dX5_doesThing_137 rfl ?_
        rw [← hBB]
        first
          | exact ⟨_, _, rfl, rfl, Or.inl ⟨by omega, by omega, by unfold sEff; exact (if_pos hc).symm⟩⟩
          | exact ⟨_, _, rfl, rfl, Or.inl ⟨by omega, by omega, by unfold sEff; exact ((if_neg (by omega)).trans (if_pos hc)).symm⟩⟩
          | exact ⟨_, _, rfl, rfl, Or.inl ⟨by omega, by omega, by unfold sEff; exact ((if_neg (by omega)).trans (if_neg (by omega))).symm⟩⟩
          | exact ⟨_, _, rfl, rfl, Or.inr (Or.inl ⟨by omega, rfl, rfl⟩)⟩
          | exact ⟨_, _, rfl, rfl, Or.inr (Or.inr ⟨by omega, by omega, rfl, rfl⟩)⟩
          | (exfalso; omega)
      · refine z_iconst dX5_doesThing_132 ?_
        refine z_goto (tgt := 137) dX5_doesThing_133 (by decide) ?_
        refine z_iret dX5_doesThing_137 rfl ?_
        rw [← hBB]
        first
          | exact ⟨_, _, rfl, rfl, Or.inl ⟨by omega, by omega, by unfold sEff; exact (if_pos hc).symm⟩⟩
          | exact ⟨_, _, rfl, rfl, Or.inl ⟨by omega, by omega, by unfold sEff; exact ((if_neg (by omega)).trans (if_pos hc)).symm⟩⟩
          | exact ⟨_, _, rfl, rfl, Or.inl ⟨by omega, by omega, by unfold sEff; exact ((if_neg (by omega)).trans (if_neg (by omega))).symm⟩⟩
          | exact ⟨_, _, rfl, rfl, Or.inr (Or.inl ⟨by omega, rfl, rfl⟩)⟩
          | exact ⟨_, _, rfl, rfl, Or.inr (Or.inr ⟨by omega, by omega, rfl, rfl⟩)⟩
          | (exfalso; omega)
