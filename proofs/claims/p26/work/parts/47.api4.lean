theorem pM_c {T : zS} {n lo hi : Int} {x : Int × Int} (h : (pM T n lo hi x).1 = 0) : x.1 = 0 ∧ lo ≤ pN T n x.2 - 48 ∧ pN T n x.2 - 48 ≤ 9 := by
  unfold pM at h
  by_cases q : x.1 = 0 ∧ lo ≤ pN T n x.2 - 48 ∧ pN T n x.2 - 48 ≤ (if hi < 9 then hi else 9)
  · refine ⟨q.1, q.2.1, ?_⟩
    have := q.2.2
    split at this <;> omega
  · rw [if_neg q] at h
    exact absurd (show (1 : Int) = 0 from h) (by decide)
theorem pS_c {T : zS} {n c : Int} {x : Int × Int} (h : (pS T n c x).1 = 0) : x.1 = 0 := by
  unfold pS at h
  split at h
  · rename_i q
    exact q.1
  · exact absurd (show (1 : Int) = 0 from h) (by decide)
theorem nV_r {T : zS} {n hi i : Int} (h : 0 ≤ pN T n i - 48 ∧ pN T n i - 48 ≤ 9) (hh : hi ≤ 99) : 0 ≤ nV T n hi i ∧ nV T n hi i ≤ 99 := by
  unfold nV
  split <;> omega
theorem p_r {T : zS} {n i : Int} (h : (pT T n i).1 = 0) : (0 ≤ p1 T n i ∧ p1 T n i ≤ 99) ∧ (¬ pN T n i = 46 → 0 ≤ p2 T n i ∧ p2 T n i ≤ 99) ∧ (pN T n i = 102 → 0 ≤ p3 T n i ∧ p3 T n i ≤ 99) := by
  have hk := pT_kd h
  unfold pT at h
  by_cases k46 : pN T n i = 46
  · rw [if_pos k46] at h
    have c := pM_c h
    dsimp only at c
    refine ⟨?_, fun q => absurd k46 q, fun q => absurd q (by omega)⟩
    unfold p1
    rw [if_pos k46]
    exact nV_r (by omega) (by decide)
  · rw [if_neg k46] at h
    by_cases k115 : pN T n i = 115
    · rw [if_pos k115] at h
      have c := pM_c h
      have ca := pM_c (pS_c c.1)
      dsimp only at ca
      refine ⟨?_, fun _ => ?_, fun q => absurd q (by omega)⟩
      · unfold p1
        rw [if_neg k46]
        exact nV_r (by omega) (by decide)
      · unfold p2
        rw [if_pos k115]
        exact nV_r (by omega) (by decide)
    · rw [if_neg k115] at h
      have k102 : pN T n i = 102 := by omega
      rw [if_pos k102] at h
      have c := pM_c h
      have cb := pM_c (pS_c c.1)
      have ca := pM_c (pS_c cb.1)
      dsimp only at ca
      refine ⟨?_, fun _ => ?_, fun _ => ?_⟩
      · unfold p1
        rw [if_neg k46]
        exact nV_r (by omega) (by decide)
      · unfold p2
        rw [if_neg k115]
        exact nV_r (by omega) (by decide)
      · unfold p3
        exact nV_r (by omega) (by decide)
theorem zX_eff {σ : zS} (hB : zB σ) (hX : zX σ) {kd a b c : Int} (h : sBarK σ kd a b c = 0) : zX (sEff σ kd a b c) := by
  have hs := hB.1.1.1
  unfold zIs at hs
  have h8 := hB.2.1
  unfold sBarK at h
  unfold sEff
  split at h
  · rename_i q
    rw [if_pos q]
    exact zX_come hX (by omega) a b
  · rename_i q
    rw [if_neg q]
    split at h
    · rename_i q2
      rw [if_pos q2]
      have := sBarF_0 h
      exact zX_fz hX (by omega) (by omega)
    · rename_i q2
      rw [if_neg q2]
      have := sBarT_0 h
      exact zX_ts hB.1 hX (by omega)

theorem vX4_doThing {G : zG} {M : zM} {σ : zS} {d : Int}   {T : zS} {l i : Int} (hR : zRel M 0 σ) (hB : zB σ) (hX : zX σ) (hd : 0 ≤ d ∧ d < 21) (hT : (pT T l i).1 = 0) (hth : zTh T l i M d) : zCall G yX4_doThing YX4_doThing [.inr (some 175), .inl d] M (fun v M' => ∃ x : Int, v = some (.inl x) ∧ (-2147483648 ≤ x ∧ x < 2147483648) ∧ ((sBarK σ (pN T l i) (p1 T l i) (p2 T l i) (p3 T l i) < 0 ∧ x = sBarK σ (pN T l i) (p1 T l i) (p2 T l i) (p3 T l i) ∧ M' = M) ∨ (sBarK σ (pN T l i) (p1 T l i) (p2 T l i) (p3 T l i) = 0 ∧ 0 ≤ x ∧ zRel M' 0 (sEff σ (pN T l i) (p1 T l i) (p2 T l i) (p3 T l i)) ∧ zOff M M' 0))) := by
  refine zEnter (by decide +kernel) rfl (Nat.le_of_ble_eq_true rfl) ?_
  have hA := hB.1
  have hI := hA.1
  have hs9 := hI.1
  unfold zIs at hs9
  have h8 := hB.2.1
  have ht0 := hB.2.2
  have hkd := pT_kd hT
  have hpr := p_r hT
  refine z_iload_n dX4_doThing_0 rfl ?_
  refine z_if_lt (tgt := 10) dX4_doThing_1 (by decide) (by omega) (fun c1 => ?_) (fun c1 => ?_)
  · refine z_iconst dX4_doThing_10 ?_
    exfalso; omega
  · refine z_iload_n dX4_doThing_4 rfl ?_
    refine z_bipush dX4_doThing_5 (by decide) ?_
    refine z_icmp_lt (tgt := 12) dX4_doThing_7 (by decide) (by omega) (by omega) (fun c7 => ?_) (fun c7 => ?_)
    · refine z_aload_n dX4_doThing_12 rfl ?_
      refine z_getR (b := 178) dX4_doThing_13 fX4_36 (by decide) (zsh175) rfl rfl ?_
      refine z_getR (b := 180) dX4_doThing_16 fX4_99 (by decide) (zsh178) rfl rfl ?_
      refine z_iload_n dX4_doThing_19 rfl ?_
      refine z_iaload dX4_doThing_20 (by decide) (zsh180) (by omega) (by decide) ?_
      rw [hth.1]
      rcases (show (pN T l i) = 102 ∨ (pN T l i) = 115 ∨ (¬ (pN T l i) = 102 ∧ ¬ (pN T l i) = 115) by omega) with h21 | h21 | h21
      · refine z_look (off := 53) (tgt := 74) dX4_doThing_21 (by decide) (by omega) (by rw [h21]; rfl) (by decide) ?_
        have hk := h21
        have ht := hth.2.2.2 hk
        have hbr := sBarF_r σ (p1 T l i) (p2 T l i) (p3 T l i)
        have hp2 := hpr.2.1 (by omega)
        have hp3 := hpr.2.2 hk
        have hfr : sBarF σ (p1 T l i) (p2 T l i) (p3 T l i) = 0 → 0 ≤ σ (6 * p2 T l i + p1 T l i) ∧ σ (6 * p2 T l i + p1 T l i) ≤ 9 := fun e => by
          have e2 := sBarF_0 e
          have e3 := hI.2.1 (6 * p2 T l i + p1 T l i) (by omega) (by omega)
          unfold zIc at e3
          omega
        refine z_aload_n dX4_doThing_74 rfl ?_
        refine z_getR (b := 0) dX4_doThing_75 fX4_12 (by decide) (zsh175) rfl rfl ?_
        refine z_aload_n dX4_doThing_78 rfl ?_
        refine z_getR (b := 178) dX4_doThing_79 fX4_36 (by decide) (zsh175) rfl rfl ?_
        refine z_getR (b := 181) dX4_doThing_82 fX4_103 (by decide) (zsh178) rfl rfl ?_
        refine z_iload_n dX4_doThing_85 rfl ?_
        refine z_iaload dX4_doThing_86 (by decide) (zsh181) (by omega) (by decide) ?_
        refine z_aload_n dX4_doThing_87 rfl ?_
        refine z_getR (b := 178) dX4_doThing_88 fX4_36 (by decide) (zsh175) rfl rfl ?_
        refine z_getR (b := 182) dX4_doThing_91 fX4_109 (by decide) (zsh178) rfl rfl ?_
        refine z_iload_n dX4_doThing_94 rfl ?_
        refine z_iaload dX4_doThing_95 (by decide) (zsh182) (by omega) (by decide) ?_
        refine z_aload_n dX4_doThing_96 rfl ?_
        refine z_getR (b := 178) dX4_doThing_97 fX4_36 (by decide) (zsh175) rfl rfl ?_
        refine z_getR (b := 183) dX4_doThing_100 fX4_106 (by decide) (zsh178) rfl rfl ?_
        refine z_iload_n dX4_doThing_103 rfl ?_
        refine z_iaload dX4_doThing_104 (by decide) (zsh183) (by omega) (by decide) ?_
        rw [ht.1, ht.2.1, ht.2.2]
        refine z_callV mX1_changeFrost (vX1_changeFrost zP_0 hR (by omega) (by omega) (by omega) hI) rfl dX4_doThing_105 kX4_69 (by decide) rfl (by show _ ≤ 8; simp) (zP_r0 (zP_0)) (zm_sh_p0 (zP_0)) (by decide) rfl (fun v105 M105 q105 => ?_)
        have hbe : sBarK σ (pN T l i) (p1 T l i) (p2 T l i) (p3 T l i) = sBarF σ (p1 T l i) (p2 T l i) (p3 T l i) := by unfold sBarK; rw [if_neg (by omega), if_pos hk]
        have hee : sEff σ (pN T l i) (p1 T l i) (p2 T l i) (p3 T l i) = sFz σ (6 * p2 T l i + p1 T l i) (p3 T l i) := by unfold sEff; rw [if_neg (by omega), if_pos hk]
        have hex : ∃ x : Int, v105 = some (.inl x) ∧ (-2147483648 ≤ x ∧ x < 2147483648) ∧ ((sBarK σ (pN T l i) (p1 T l i) (p2 T l i) (p3 T l i) < 0 ∧ x = sBarK σ (pN T l i) (p1 T l i) (p2 T l i) (p3 T l i) ∧ M105 = M) ∨ (sBarK σ (pN T l i) (p1 T l i) (p2 T l i) (p3 T l i) = 0 ∧ 0 ≤ x ∧ zRel M105 0 (sEff σ (pN T l i) (p1 T l i) (p2 T l i) (p3 T l i)) ∧ zOff M M105 0)) := by
          rw [hbe, hee]
          rcases q105 with ⟨a1, a2, a3⟩ | ⟨a1, a2, a3⟩
          · exact ⟨_, a2, by omega, Or.inl ⟨a1, rfl, a3⟩⟩
          · exact ⟨_, a2, by have := hfr a1; omega, Or.inr ⟨a1, (hfr a1).1, a3⟩⟩
        obtain ⟨x105, rfl, hxr, hx⟩ := hex
        try simp only [zpush]
        refine z_iret dX4_doThing_108 rfl ?_
        exact ⟨_, rfl, hxr, hx⟩
      · refine z_look (off := 27) (tgt := 48) dX4_doThing_21 (by decide) (by omega) (by rw [h21]; rfl) (by decide) ?_
        have hk := h21
        have ht := hth.2.2.1 hk
        have hbr := sBarS_r σ (p1 T l i) (p2 T l i)
        have hp2 := hpr.2.1 (by omega)
        refine z_aload_n dX4_doThing_48 rfl ?_
        refine z_getR (b := 0) dX4_doThing_49 fX4_12 (by decide) (zsh175) rfl rfl ?_
        refine z_aload_n dX4_doThing_52 rfl ?_
        refine z_getR (b := 178) dX4_doThing_53 fX4_36 (by decide) (zsh175) rfl rfl ?_
        refine z_getR (b := 181) dX4_doThing_56 fX4_103 (by decide) (zsh178) rfl rfl ?_
        refine z_iload_n dX4_doThing_59 rfl ?_
        refine z_iaload dX4_doThing_60 (by decide) (zsh181) (by omega) (by decide) ?_
        refine z_aload_n dX4_doThing_61 rfl ?_
        refine z_getR (b := 178) dX4_doThing_62 fX4_36 (by decide) (zsh175) rfl rfl ?_
        refine z_getR (b := 183) dX4_doThing_65 fX4_106 (by decide) (zsh178) rfl rfl ?_
        refine z_iload_n dX4_doThing_68 rfl ?_
        refine z_iaload dX4_doThing_69 (by decide) (zsh183) (by omega) (by decide) ?_
        rw [ht.1, ht.2]
        refine z_callV mX1_placeSnail (vX1_placeSnail zP_0 hR (by omega) (by omega) h8 hI) rfl dX4_doThing_70 kX4_58 (by decide) rfl (by show _ ≤ 8; simp) (zP_r0 (zP_0)) (zm_sh_p0 (zP_0)) (by decide) rfl (fun v70 M70 q70 => ?_)
        have hbe : sBarK σ (pN T l i) (p1 T l i) (p2 T l i) (p3 T l i) = sBarS σ (p1 T l i) (p2 T l i) := by unfold sBarK; rw [if_pos hk]
        have hee : sEff σ (pN T l i) (p1 T l i) (p2 T l i) (p3 T l i) = sCome σ (p1 T l i) (p2 T l i) := by unfold sEff; rw [if_pos hk]
        have hex : ∃ x : Int, v70 = some (.inl x) ∧ (-2147483648 ≤ x ∧ x < 2147483648) ∧ ((sBarK σ (pN T l i) (p1 T l i) (p2 T l i) (p3 T l i) < 0 ∧ x = sBarK σ (pN T l i) (p1 T l i) (p2 T l i) (p3 T l i) ∧ M70 = M) ∨ (sBarK σ (pN T l i) (p1 T l i) (p2 T l i) (p3 T l i) = 0 ∧ 0 ≤ x ∧ zRel M70 0 (sEff σ (pN T l i) (p1 T l i) (p2 T l i) (p3 T l i)) ∧ zOff M M70 0)) := by
          rw [hbe, hee]
          rcases q70 with ⟨a1, a2, a3⟩ | ⟨a1, a2, a3⟩
          · exact ⟨_, a2, by omega, Or.inl ⟨a1, rfl, a3⟩⟩
          · exact ⟨_, a2, by omega, Or.inr ⟨a1, by omega, a3⟩⟩
        obtain ⟨x70, rfl, hxr, hx⟩ := hex
        try simp only [zpush]
        refine z_iret dX4_doThing_73 rfl ?_
        exact ⟨_, rfl, hxr, hx⟩
      · refine z_look (off := 88) (tgt := 109) dX4_doThing_21 (by decide) (by omega) (by show (if _ = _ then _ else if _ = _ then _ else _) = _; rw [if_neg (by omega), if_neg (by omega)]; rfl) (by decide) ?_
        have hk : pN T l i = 46 := by omega
        have ht := hth.2.1 hk
        have hbr := sBarT_r σ (p1 T l i)
        have hfr : sBarT σ (p1 T l i) = 0 → 0 ≤ sTs (p1 T l i) σ 537 - σ 537 ∧ sTs (p1 T l i) σ 537 - σ 537 ≤ 9 := fun e => by
          have e2 := sBarT_0 e
          exact sTs_7 hA hX (by omega)
        refine z_aload_n dX4_doThing_109 rfl ?_
        refine z_getR (b := 0) dX4_doThing_110 fX4_12 (by decide) (zsh175) rfl rfl ?_
        refine z_aload_n dX4_doThing_113 rfl ?_
        refine z_getR (b := 178) dX4_doThing_114 fX4_36 (by decide) (zsh175) rfl rfl ?_
        refine z_getR (b := 183) dX4_doThing_117 fX4_106 (by decide) (zsh178) rfl rfl ?_
        refine z_iload_n dX4_doThing_120 rfl ?_
        refine z_iaload dX4_doThing_121 (by decide) (zsh183) (by omega) (by decide) ?_
        rw [ht]
        refine z_callV mX1_letPass (vX1_letPass zP_0 hR (by omega) hA hX ht0) rfl dX4_doThing_122 kX4_76 (by decide) rfl (by show _ ≤ 8; simp) (zP_r0 (zP_0)) (zm_sh_p0 (zP_0)) (by decide) rfl (fun v122 M122 q122 => ?_)
        have hbe : sBarK σ (pN T l i) (p1 T l i) (p2 T l i) (p3 T l i) = sBarT σ (p1 T l i) := by unfold sBarK; rw [if_neg (by omega), if_neg (by omega)]
        have hee : sEff σ (pN T l i) (p1 T l i) (p2 T l i) (p3 T l i) = sTs (p1 T l i) σ := by unfold sEff; rw [if_neg (by omega), if_neg (by omega)]
        have hex : ∃ x : Int, v122 = some (.inl x) ∧ (-2147483648 ≤ x ∧ x < 2147483648) ∧ ((sBarK σ (pN T l i) (p1 T l i) (p2 T l i) (p3 T l i) < 0 ∧ x = sBarK σ (pN T l i) (p1 T l i) (p2 T l i) (p3 T l i) ∧ M122 = M) ∨ (sBarK σ (pN T l i) (p1 T l i) (p2 T l i) (p3 T l i) = 0 ∧ 0 ≤ x ∧ zRel M122 0 (sEff σ (pN T l i) (p1 T l i) (p2 T l i) (p3 T l i)) ∧ zOff M M122 0)) := by
          rw [hbe, hee]
          rcases q122 with ⟨a1, a2, a3⟩ | ⟨a1, a2, a3⟩
          · exact ⟨_, a2, by omega, Or.inl ⟨a1, rfl, a3⟩⟩
          · exact ⟨_, a2, by have := hfr a1; omega, Or.inr ⟨a1, (hfr a1).1, a3⟩⟩
        obtain ⟨x122, rfl, hxr, hx⟩ := hex
        try simp only [zpush]
        refine z_iret dX4_doThing_125 rfl ?_
        exact ⟨_, rfl, hxr, hx⟩
    · refine z_iconst dX4_doThing_10 ?_
      exfalso; omega

