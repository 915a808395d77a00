/-! ===== the pane's acts ===== -/
theorem rel_sum1 {M : zM} {p : Int} {σ : zS} (hR : zRel M p σ) : zfor (fun i x => x + M (p + 1) i) 0 ((120 : Nat) : Int) 0 = sFro σ := by
  unfold sFro
  refine zfor_cg 120 0 0 (by omega) (fun i q1 q2 => ?_)
  have h := hR.1 i q1 (by omega)
  unfold zRc at h
  funext x
  rw [h.1]
theorem rel_sum9 {M : zM} {p d w : Int} {σ : zS} (hm : 0 ≤ σ 535 ∧ σ 535 ≤ 9) (h1 : ∀ k : Int, 0 ≤ k → k < σ 535 → M (p + d) k = σ (360 + 10 * k + w)) (h2 : ∀ k : Int, σ 535 ≤ k → k < 9 → M (p + d) k = 0) : zfor (fun i x => x + M (p + d) i) 0 ((9 : Nat) : Int) 0 = sOf σ w := by
  rw [zfor_cut (j := σ 535) (by omega) (fun i q1 q2 x => by rw [h2 i q1 (by omega), Int.add_zero]) 9 0 0 (by omega)]
  unfold sOf
  refine zfor_cg (σ 535).toNat 0 0 (by omega) (fun i q1 q2 => ?_)
  funext x
  rw [h1 i q1 q2]

theorem vX1_tellCount {G : zG} {M : zM} {σ : zS} {p w : Int} (hp : zP p) (hR : zRel M p σ) (hw : -2147483648 ≤ w ∧ w < 2147483648) (hI : zI σ) : zCall G yX1_tellCount YX1_tellCount [.inr (some p), .inl w] M (fun v M' => M = M' ∧ v = some (.inl (sCount σ (-2) (-2) w))) := by
  refine zEnter (by decide +kernel) rfl (Nat.le_of_ble_eq_true rfl) ?_
  have hs9 := hI.1
  unfold zIs at hs9
  have hR5 := hR.2.2.2.2.2.1
  have hR6 := hR.2.2.2.2.2.2
  have hR4 := hR.2.2.2.2.1
  refine z_iload_n dX1_tellCount_0 rfl ?_
  rcases (show w = 0 ∨ w = 1 ∨ w = 2 ∨ w = 3 ∨ w = 4 ∨ w = 5 ∨ w = 6 ∨ w = 7 ∨ w = 8 ∨ (w < 0 ∨ 8 < w) by omega) with h1 | h1 | h1 | h1 | h1 | h1 | h1 | h1 | h1 | h1
  · refine z_tabIn (off := 51) (tgt := 52) dX1_tellCount_1 (by omega) (by omega) (by rw [h1]; rfl) (by decide) ?_
    refine z_aload_n dX1_tellCount_52 rfl ?_
    refine z_getI (kI := 16) dX1_tellCount_53 fX1_71 (zP_r0 hp) (zm_sh_p0 hp) rfl rfl ?_
    refine z_iret dX1_tellCount_56 rfl ?_
    refine ⟨rfl, ?_⟩
    rw [h1]
    unfold sCount
    congr 2
    try simp only [h1, reduceIte]
  · refine z_tabIn (off := 56) (tgt := 57) dX1_tellCount_1 (by omega) (by omega) (by rw [h1]; rfl) (by decide) ?_
    refine z_aload_n dX1_tellCount_57 rfl ?_
    refine z_getI (kI := 15) dX1_tellCount_58 fX1_67 (zP_r0 hp) (zm_sh_p0 hp) rfl rfl ?_
    refine z_iret dX1_tellCount_61 rfl ?_
    refine ⟨rfl, ?_⟩
    rw [h1]
    unfold sCount
    congr 2
    try simp only [h1, reduceIte]
  · refine z_tabIn (off := 61) (tgt := 62) dX1_tellCount_1 (by omega) (by omega) (by rw [h1]; rfl) (by decide) ?_
    refine z_aload_n dX1_tellCount_62 rfl ?_
    refine z_iconst dX1_tellCount_63 ?_
    refine z_callV mX1_howManyAre (vX1_howManyAre hp hR (by omega) hI) rfl dX1_tellCount_64 kX1_115 (by decide) rfl (by show _ ≤ 8; simp) (zP_r0 hp) (zm_sh_p0 hp) (by decide) rfl (fun v64 M64 q64 => ?_)
    obtain ⟨rfl, rfl⟩ := q64
    try simp only [zpush]
    refine z_iret dX1_tellCount_67 rfl ?_
    refine ⟨rfl, ?_⟩
    rw [h1]
    unfold sCount
    congr 2
    try simp only [h1, reduceIte]
  · refine z_tabIn (off := 67) (tgt := 68) dX1_tellCount_1 (by omega) (by omega) (by rw [h1]; rfl) (by decide) ?_
    refine z_aload_n dX1_tellCount_68 rfl ?_
    refine z_iconst dX1_tellCount_69 ?_
    refine z_callV mX1_howManyAre (vX1_howManyAre hp hR (by omega) hI) rfl dX1_tellCount_70 kX1_115 (by decide) rfl (by show _ ≤ 8; simp) (zP_r0 hp) (zm_sh_p0 hp) (by decide) rfl (fun v70 M70 q70 => ?_)
    obtain ⟨rfl, rfl⟩ := q70
    try simp only [zpush]
    refine z_iret dX1_tellCount_73 rfl ?_
    refine ⟨rfl, ?_⟩
    rw [h1]
    unfold sCount
    congr 2
    try simp only [h1, reduceIte]
  · refine z_tabIn (off := 73) (tgt := 74) dX1_tellCount_1 (by omega) (by omega) (by rw [h1]; rfl) (by decide) ?_
    refine z_aload_n dX1_tellCount_74 rfl ?_
    refine z_callV mX1_howManyTrails (vX1_howManyTrails hp hR hI) rfl dX1_tellCount_75 kX1_158 (by decide) rfl (by show _ ≤ 8; simp) (zP_r0 hp) (zm_sh_p0 hp) (by decide) rfl (fun v75 M75 q75 => ?_)
    obtain ⟨rfl, rfl⟩ := q75
    try simp only [zpush]
    refine z_iret dX1_tellCount_78 rfl ?_
    refine ⟨rfl, ?_⟩
    rw [h1]
    unfold sCount
    congr 2
    try simp only [h1, reduceIte]
  · refine z_tabIn (off := 78) (tgt := 79) dX1_tellCount_1 (by omega) (by omega) (by rw [h1]; rfl) (by decide) ?_
    refine z_aload_n dX1_tellCount_79 rfl ?_
    refine z_getR (b := (p + 1)) dX1_tellCount_80 fX1_9 (zP_r0 hp) (zm_sh_p0 hp) rfl rfl ?_
    refine z_callSN mX4_sum (vX4_sum (zP_r hp 1 (by decide)) (zm_sh_p hp 1 (by decide)) (by decide)) rfl dX1_tellCount_83 kX1_162 (by decide) rfl (by show _ ≤ 8; simp) (fun v83 M83 q83 => ?_)
    obtain ⟨rfl, rfl⟩ := q83
    try simp only [zpush]
    refine z_iret dX1_tellCount_86 rfl ?_
    exact ⟨rfl, by rw [h1, rel_sum1 hR]; rfl⟩
  · refine z_tabIn (off := 86) (tgt := 87) dX1_tellCount_1 (by omega) (by omega) (by rw [h1]; rfl) (by decide) ?_
    refine z_aload_n dX1_tellCount_87 rfl ?_
    refine z_getR (b := (p + 9)) dX1_tellCount_88 fX1_36 (zP_r0 hp) (zm_sh_p0 hp) rfl rfl ?_
    refine z_callSN mX4_sum (vX4_sum (zP_r hp 9 (by decide)) (zm_sh_p hp 9 (by decide)) (by decide)) rfl dX1_tellCount_91 kX1_162 (by decide) rfl (by show _ ≤ 8; simp) (fun v91 M91 q91 => ?_)
    obtain ⟨rfl, rfl⟩ := q91
    try simp only [zpush]
    refine z_iret dX1_tellCount_94 rfl ?_
    exact ⟨rfl, by rw [h1, rel_sum9 (σ := σ) (d := 9) (w := 5) (by omega) (fun k q1 q2 => by have h := hR.2.1 k q1 q2; unfold zRk at h; omega) (fun k q1 q2 => by have h := hR.2.2.1 k q1 q2; unfold zRe at h; omega)]; rfl⟩
  · refine z_tabIn (off := 94) (tgt := 95) dX1_tellCount_1 (by omega) (by omega) (by rw [h1]; rfl) (by decide) ?_
    refine z_aload_n dX1_tellCount_95 rfl ?_
    refine z_getR (b := (p + 10)) dX1_tellCount_96 fX1_39 (zP_r0 hp) (zm_sh_p0 hp) rfl rfl ?_
    refine z_callSN mX4_sum (vX4_sum (zP_r hp 10 (by decide)) (zm_sh_p hp 10 (by decide)) (by decide)) rfl dX1_tellCount_99 kX1_162 (by decide) rfl (by show _ ≤ 8; simp) (fun v99 M99 q99 => ?_)
    obtain ⟨rfl, rfl⟩ := q99
    try simp only [zpush]
    refine z_iret dX1_tellCount_102 rfl ?_
    exact ⟨rfl, by rw [h1, rel_sum9 (σ := σ) (d := 10) (w := 6) (by omega) (fun k q1 q2 => by have h := hR.2.1 k q1 q2; unfold zRk at h; omega) (fun k q1 q2 => by have h := hR.2.2.1 k q1 q2; unfold zRe at h; omega)]; rfl⟩
  · refine z_tabIn (off := 102) (tgt := 103) dX1_tellCount_1 (by omega) (by omega) (by rw [h1]; rfl) (by decide) ?_
    refine z_aload_n dX1_tellCount_103 rfl ?_
    refine z_getR (b := (p + 11)) dX1_tellCount_104 fX1_42 (zP_r0 hp) (zm_sh_p0 hp) rfl rfl ?_
    refine z_callSN mX4_sum (vX4_sum (zP_r hp 11 (by decide)) (zm_sh_p hp 11 (by decide)) (by decide)) rfl dX1_tellCount_107 kX1_162 (by decide) rfl (by show _ ≤ 8; simp) (fun v107 M107 q107 => ?_)
    obtain ⟨rfl, rfl⟩ := q107
    try simp only [zpush]
    refine z_iret dX1_tellCount_110 rfl ?_
    exact ⟨rfl, by rw [h1, rel_sum9 (σ := σ) (d := 11) (w := 7) (by omega) (fun k q1 q2 => by have h := hR.2.1 k q1 q2; unfold zRk at h; omega) (fun k q1 q2 => by have h := hR.2.2.1 k q1 q2; unfold zRe at h; omega)]; rfl⟩
  · refine z_tabOut (tgt := 111) dX1_tellCount_1 (by omega) h1 (by decide) ?_
    refine z_iload_n dX1_tellCount_111 rfl ?_
    refine z_bipush dX1_tellCount_112 (by decide) ?_
    refine z_icmp_lt (tgt := 141) dX1_tellCount_114 (by decide) (by omega) (by omega) (fun c114 => ?_) (fun c114 => ?_)
    · refine z_bipush dX1_tellCount_141 (by decide) ?_
      refine z_iret dX1_tellCount_143 rfl ?_
      refine ⟨rfl, ?_⟩
      unfold sCount
      rw [if_neg (by omega), if_neg (by omega), if_neg (by omega), if_neg (by omega), if_neg (by omega), if_neg (by omega), if_neg (by omega), if_neg (by omega), if_neg (by omega)]
      first
        | (rw [if_neg (by omega), ite_self, ite_self]; done)
        | (rw [if_pos (by omega)]; rcases (show w = 9 ∨ w = 10 ∨ w = 11 ∨ w = 12 by omega) with q | q | q | q <;> (subst q; first | exact congrArg (fun z => some (zV.inl z)) (by omega) | (congr 2; simp; omega) | (congr 2; omega)))
    · refine z_iload_n dX1_tellCount_117 rfl ?_
      refine z_bipush dX1_tellCount_118 (by decide) ?_
      refine z_aload_n dX1_tellCount_120 rfl ?_
      refine z_getR (b := (p + 24)) dX1_tellCount_121 fX1_64 (zP_r0 hp) (zm_sh_p0 hp) rfl rfl ?_
      refine z_alen dX1_tellCount_124 (zP_r hp 24 (by decide)) (zm_sh_p hp 24 (by decide)) (by decide) ?_
      refine z_iadd dX1_tellCount_125 ?_
      refine z_icmp_ge (tgt := 141) dX1_tellCount_126 (by decide) (by omega) (by omega) (fun c126 => ?_) (fun c126 => ?_)
      · refine z_bipush dX1_tellCount_141 (by decide) ?_
        refine z_iret dX1_tellCount_143 rfl ?_
        refine ⟨rfl, ?_⟩
        unfold sCount
        rw [if_neg (by omega), if_neg (by omega), if_neg (by omega), if_neg (by omega), if_neg (by omega), if_neg (by omega), if_neg (by omega), if_neg (by omega), if_neg (by omega)]
        first
          | (rw [if_neg (by omega), ite_self, ite_self]; done)
          | (rw [if_pos (by omega)]; rcases (show w = 9 ∨ w = 10 ∨ w = 11 ∨ w = 12 by omega) with q | q | q | q <;> (subst q; first | exact congrArg (fun z => some (zV.inl z)) (by omega) | (congr 2; simp; omega) | (congr 2; omega)))
      · refine z_aload_n dX1_tellCount_129 rfl ?_
        refine z_getR (b := (p + 24)) dX1_tellCount_130 fX1_64 (zP_r0 hp) (zm_sh_p0 hp) rfl rfl ?_
        refine z_iload_n dX1_tellCount_133 rfl ?_
        refine z_bipush dX1_tellCount_134 (by decide) ?_
        refine z_isub dX1_tellCount_136 ?_
        refine z_iaload dX1_tellCount_137 (zP_r hp 24 (by decide)) (zm_sh_p hp 24 (by decide)) (by omega) (by decide) ?_
        refine z_goto (tgt := 143) dX1_tellCount_138 (by decide) ?_
        refine z_iret dX1_tellCount_143 rfl ?_
        refine ⟨rfl, ?_⟩
        unfold sCount
        rw [if_neg (by omega), if_neg (by omega), if_neg (by omega), if_neg (by omega), if_neg (by omega), if_neg (by omega), if_neg (by omega), if_neg (by omega), if_neg (by omega)]
        first
          | (rw [if_neg (by omega), ite_self, ite_self]; done)
          | (rw [if_pos (by omega)]; rcases (show w = 9 ∨ w = 10 ∨ w = 11 ∨ w = 12 by omega) with q | q | q | q <;> (subst q; first | exact congrArg (fun z => some (zV.inl z)) (by omega) | (congr 2; simp; omega) | (congr 2; omega)))

theorem vX1_clearTrail {G : zG} {M : zM} {p c : Int} (hp : zP p) (hc : 0 ≤ c ∧ c < 120) : zCall G yX1_clearTrail YX1_clearTrail [.inr (some p), .inl c] M (fun v M' => v = none ∧ M' = zm_up (zm_up M (p + 2) c (-5)) (p + 3) c (-5)) := by
  refine zEnter (by decide +kernel) rfl (Nat.le_of_ble_eq_true rfl) ?_
  refine z_aload_n dX1_clearTrail_0 rfl ?_
  refine z_getR (b := (p + 2)) dX1_clearTrail_1 fX1_15 (zP_r0 hp) (zm_sh_p0 hp) rfl rfl ?_
  refine z_iload_n dX1_clearTrail_4 rfl ?_
  refine z_bipush dX1_clearTrail_5 (by decide) ?_
  refine z_niast dX1_clearTrail_7 (zP_r hp 2 (by decide)) (zm_sh_p hp 2 (by decide)) (by omega) (by decide) (fun N7 hN7 => ?_)
  refine z_aload_n dX1_clearTrail_8 rfl ?_
  refine z_getR (b := (p + 3)) dX1_clearTrail_9 fX1_18 (zP_r0 hp) (zm_sh_p0 hp) rfl rfl ?_
  refine z_iload_n dX1_clearTrail_12 rfl ?_
  refine z_bipush dX1_clearTrail_13 (by decide) ?_
  refine z_niast dX1_clearTrail_15 (zP_r hp 3 (by decide)) (zm_sh_p hp 3 (by decide)) (by omega) (by decide) (fun N15 hN15 => ?_)
  refine z_vret dX1_clearTrail_16 rfl ?_
  subst hN7
  subst hN15
  exact ⟨rfl, rfl⟩

theorem vX1_knowsM {G : zG} {M : zM} {p k : Int} (hp : zP p) (hk : -2147483648 ≤ k ∧ k < 2147483648) (hm : 0 ≤ M p 15 ∧ M p 15 ≤ 9) : zCall G yX1_knows YX1_knows [.inr (some p), .inl k] M (fun v M' => M = M' ∧ ∃ zb : Int, v = some (.inl zb) ∧ ((zb = 1 ∧ (0 ≤ k ∧ k < M p 15)) ∨ (zb = 0 ∧ ¬ (0 ≤ k ∧ k < M p 15)))) := by
  refine zEnter (by decide +kernel) rfl (Nat.le_of_ble_eq_true rfl) ?_
  refine z_iload_n dX1_knows_0 rfl ?_
  refine z_if_lt (tgt := 16) dX1_knows_1 (by decide) (by omega) (fun c1 => ?_) (fun c1 => ?_)
  · refine z_iconst dX1_knows_16 ?_
    refine z_zret dX1_knows_17 rfl (by omega) ?_
    exact ⟨rfl, _, rfl, by omega⟩
  · refine z_iload_n dX1_knows_4 rfl ?_
    refine z_aload_n dX1_knows_5 rfl ?_
    refine z_getI (kI := 15) dX1_knows_6 fX1_67 (zP_r0 hp) (zm_sh_p0 hp) rfl rfl ?_
    refine z_icmp_ge (tgt := 16) dX1_knows_9 (by decide) (by omega) (by omega) (fun c9 => ?_) (fun c9 => ?_)
    · refine z_iconst dX1_knows_16 ?_
      refine z_zret dX1_knows_17 rfl (by omega) ?_
      exact ⟨rfl, _, rfl, by omega⟩
    · refine z_iconst dX1_knows_12 ?_
      refine z_goto (tgt := 17) dX1_knows_13 (by decide) ?_
      refine z_zret dX1_knows_17 rfl (by omega) ?_
      exact ⟨rfl, _, rfl, by omega⟩

theorem vX1_noteLender {G : zG} {M : zM} {p k w : Int} (hp : zP p) (hw : -2147483648 ≤ w ∧ w < 2147483648) (hk : 0 ≤ k ∧ k < 9) (hm : 0 ≤ M p 15 ∧ M p 15 ≤ 9) (hl : -5 ≤ M (p + 12) k ∧ M (p + 12) k ≤ 9) : zCall G yX1_noteLender YX1_noteLender [.inr (some p), .inl k, .inl w] M (fun v M' => v = none ∧ ((¬ (0 ≤ w ∧ w < M p 15) ∧ M' = zm_up (zm_up M (p + 12) k (-5)) (p + 13) k 0) ∨ ((0 ≤ w ∧ w < M p 15) ∧ M' = zm_up (zm_up (zm_up (zm_up M (p + 13) k (if M (p + 12) k = w then M (p + 13) k + 1 else 1)) (p + 12) k w) (p + 10) k (M (p + 10) k + 1)) (p + 15 + k) w (M (p + 15 + k) w + 1)))) := by
  refine zEnter (by decide +kernel) rfl (Nat.le_of_ble_eq_true rfl) ?_
  refine z_aload_n dX1_noteLender_0 rfl ?_
  refine z_iload_n dX1_noteLender_1 rfl ?_
  refine z_callV mX1_knows (vX1_knowsM hp (by omega) hm) rfl dX1_noteLender_2 kX1_91 (by decide) rfl (by show _ ≤ 8; simp) (zP_r0 hp) (zm_sh_p0 hp) (by decide) rfl (fun v2 M2 q2 => ?_)
  obtain ⟨rfl, b2, rfl, h2⟩ := q2
  try simp only [zpush]
  refine z_if_ne (tgt := 24) dX1_noteLender_5 (by decide) (by omega) (fun c5 => ?_) (fun c5 => ?_)
  · refine z_aload_n dX1_noteLender_24 rfl ?_
    refine z_getR (b := (p + 13)) dX1_noteLender_25 fX1_48 (zP_r0 hp) (zm_sh_p0 hp) rfl rfl ?_
    refine z_iload_n dX1_noteLender_28 rfl ?_
    refine z_aload_n dX1_noteLender_29 rfl ?_
    refine z_getR (b := (p + 12)) dX1_noteLender_30 fX1_45 (zP_r0 hp) (zm_sh_p0 hp) rfl rfl ?_
    refine z_iload_n dX1_noteLender_33 rfl ?_
    refine z_iaload dX1_noteLender_34 (zP_r hp 12 (by decide)) (zm_sh_p hp 12 (by decide)) (by omega) (by decide) ?_
    refine z_iload_n dX1_noteLender_35 rfl ?_
    refine z_icmp_ne (tgt := 50) dX1_noteLender_36 (by decide) (by omega) (by omega) (fun c36 => ?_) (fun c36 => ?_)
    · refine z_iconst dX1_noteLender_50 ?_
      refine z_niast dX1_noteLender_51 (zP_r hp 13 (by decide)) (zm_sh_p hp 13 (by decide)) (by omega) (by decide) (fun N51 hN51 => ?_)
      refine z_aload_n dX1_noteLender_52 rfl ?_
      refine z_getR (b := (p + 12)) dX1_noteLender_53 fX1_45 (zP_r0 hp) (zm_sh_p0 hp) rfl rfl ?_
      refine z_iload_n dX1_noteLender_56 rfl ?_
      refine z_iload_n dX1_noteLender_57 rfl ?_
      refine z_niast dX1_noteLender_58 (zP_r hp 12 (by decide)) (zm_sh_p hp 12 (by decide)) (by omega) (by decide) (fun N58 hN58 => ?_)
      refine z_aload_n dX1_noteLender_59 rfl ?_
      refine z_getR (b := (p + 10)) dX1_noteLender_60 fX1_39 (zP_r0 hp) (zm_sh_p0 hp) rfl rfl ?_
      refine z_iload_n dX1_noteLender_63 rfl ?_
      refine z_dup2 dX1_noteLender_64 ?_
      refine z_iaload dX1_noteLender_65 (zP_r hp 10 (by decide)) (zm_sh_p hp 10 (by decide)) (by omega) (by decide) ?_
      refine z_iconst dX1_noteLender_66 ?_
      refine z_iadd dX1_noteLender_67 ?_
      refine z_niast dX1_noteLender_68 (zP_r hp 10 (by decide)) (zm_sh_p hp 10 (by decide)) (by omega) (by decide) (fun N68 hN68 => ?_)
      refine z_aload_n dX1_noteLender_69 rfl ?_
      refine z_getR (b := (p + 14)) dX1_noteLender_70 fX1_53 (zP_r0 hp) (zm_sh_p0 hp) rfl rfl ?_
      refine z_iload_n dX1_noteLender_73 rfl ?_
      refine z_aaload (b := (p + 15 + k)) dX1_noteLender_74 (zP_r hp 14 (by decide)) (zm_sh_p hp 14 (by decide)) (by decide) (by omega) (by decide) rfl (by omega) ?_
      refine z_iload_n dX1_noteLender_75 rfl ?_
      refine z_dup2 dX1_noteLender_76 ?_
      refine z_iaload dX1_noteLender_77 (zr_row hp (by omega)) (zsh_row hp (by omega)) (by omega) (by decide) ?_
      refine z_iconst dX1_noteLender_78 ?_
      refine z_iadd dX1_noteLender_79 ?_
      refine z_niast dX1_noteLender_80 (zr_row hp (by omega)) (zsh_row hp (by omega)) (by omega) (by decide) (fun N80 hN80 => ?_)
      refine z_vret dX1_noteLender_81 rfl ?_
      subst hN51
      subst hN58
      subst hN68
      subst hN80
      refine ⟨rfl, Or.inr ⟨by omega, ?_⟩⟩
      rw [zm_up_off (show p + 10 ≠ p + 12 by omega), zm_up_off (show p + 10 ≠ p + 13 by omega), zm_up_off (show p + 15 + k ≠ p + 10 by omega), zm_up_off (show p + 15 + k ≠ p + 12 by omega), zm_up_off (show p + 15 + k ≠ p + 13 by omega)]
      first | rw [if_pos (by omega)] | rw [if_neg (by omega)]
    · refine z_aload_n dX1_noteLender_39 rfl ?_
      refine z_getR (b := (p + 13)) dX1_noteLender_40 fX1_48 (zP_r0 hp) (zm_sh_p0 hp) rfl rfl ?_
      refine z_iload_n dX1_noteLender_43 rfl ?_
      refine z_iaload dX1_noteLender_44 (zP_r hp 13 (by decide)) (zm_sh_p hp 13 (by decide)) (by omega) (by decide) ?_
      refine z_iconst dX1_noteLender_45 ?_
      refine z_iadd dX1_noteLender_46 ?_
      refine z_goto (tgt := 51) dX1_noteLender_47 (by decide) ?_
      refine z_niast dX1_noteLender_51 (zP_r hp 13 (by decide)) (zm_sh_p hp 13 (by decide)) (by omega) (by decide) (fun N51 hN51 => ?_)
      refine z_aload_n dX1_noteLender_52 rfl ?_
      refine z_getR (b := (p + 12)) dX1_noteLender_53 fX1_45 (zP_r0 hp) (zm_sh_p0 hp) rfl rfl ?_
      refine z_iload_n dX1_noteLender_56 rfl ?_
      refine z_iload_n dX1_noteLender_57 rfl ?_
      refine z_niast dX1_noteLender_58 (zP_r hp 12 (by decide)) (zm_sh_p hp 12 (by decide)) (by omega) (by decide) (fun N58 hN58 => ?_)
      refine z_aload_n dX1_noteLender_59 rfl ?_
      refine z_getR (b := (p + 10)) dX1_noteLender_60 fX1_39 (zP_r0 hp) (zm_sh_p0 hp) rfl rfl ?_
      refine z_iload_n dX1_noteLender_63 rfl ?_
      refine z_dup2 dX1_noteLender_64 ?_
      refine z_iaload dX1_noteLender_65 (zP_r hp 10 (by decide)) (zm_sh_p hp 10 (by decide)) (by omega) (by decide) ?_
      refine z_iconst dX1_noteLender_66 ?_
      refine z_iadd dX1_noteLender_67 ?_
      refine z_niast dX1_noteLender_68 (zP_r hp 10 (by decide)) (zm_sh_p hp 10 (by decide)) (by omega) (by decide) (fun N68 hN68 => ?_)
      refine z_aload_n dX1_noteLender_69 rfl ?_
      refine z_getR (b := (p + 14)) dX1_noteLender_70 fX1_53 (zP_r0 hp) (zm_sh_p0 hp) rfl rfl ?_
      refine z_iload_n dX1_noteLender_73 rfl ?_
      refine z_aaload (b := (p + 15 + k)) dX1_noteLender_74 (zP_r hp 14 (by decide)) (zm_sh_p hp 14 (by decide)) (by decide) (by omega) (by decide) rfl (by omega) ?_
      refine z_iload_n dX1_noteLender_75 rfl ?_
      refine z_dup2 dX1_noteLender_76 ?_
      refine z_iaload dX1_noteLender_77 (zr_row hp (by omega)) (zsh_row hp (by omega)) (by omega) (by decide) ?_
      refine z_iconst dX1_noteLender_78 ?_
      refine z_iadd dX1_noteLender_79 ?_
      refine z_niast dX1_noteLender_80 (zr_row hp (by omega)) (zsh_row hp (by omega)) (by omega) (by decide) (fun N80 hN80 => ?_)
      refine z_vret dX1_noteLender_81 rfl ?_
      subst hN51
      subst hN58
      subst hN68
      subst hN80
      refine ⟨rfl, Or.inr ⟨by omega, ?_⟩⟩
      rw [zm_up_off (show p + 10 ≠ p + 12 by omega), zm_up_off (show p + 10 ≠ p + 13 by omega), zm_up_off (show p + 15 + k ≠ p + 10 by omega), zm_up_off (show p + 15 + k ≠ p + 12 by omega), zm_up_off (show p + 15 + k ≠ p + 13 by omega)]
      first | rw [if_pos (by omega)] | rw [if_neg (by omega)]
  · refine z_aload_n dX1_noteLender_8 rfl ?_
    refine z_getR (b := (p + 12)) dX1_noteLender_9 fX1_45 (zP_r0 hp) (zm_sh_p0 hp) rfl rfl ?_
    refine z_iload_n dX1_noteLender_12 rfl ?_
    refine z_bipush dX1_noteLender_13 (by decide) ?_
    refine z_niast dX1_noteLender_15 (zP_r hp 12 (by decide)) (zm_sh_p hp 12 (by decide)) (by omega) (by decide) (fun N15 hN15 => ?_)
    refine z_aload_n dX1_noteLender_16 rfl ?_
    refine z_getR (b := (p + 13)) dX1_noteLender_17 fX1_48 (zP_r0 hp) (zm_sh_p0 hp) rfl rfl ?_
    refine z_iload_n dX1_noteLender_20 rfl ?_
    refine z_iconst dX1_noteLender_21 ?_
    refine z_niast dX1_noteLender_22 (zP_r hp 13 (by decide)) (zm_sh_p hp 13 (by decide)) (by omega) (by decide) (fun N22 hN22 => ?_)
    refine z_vret dX1_noteLender_23 rfl ?_
    subst hN15
    subst hN22
    exact ⟨rfl, Or.inl ⟨by omega, rfl⟩⟩

theorem vX1_howManyAreM {G : zG} {M : zM} {p w : Int} (hp : zP p) (hw : 0 ≤ w ∧ w ≤ 2) (hm : 0 ≤ M p 15 ∧ M p 15 ≤ 9) (h7 : ∀ k : Int, 0 ≤ k → k < M p 15 → 0 ≤ M (p + 7) k ∧ M (p + 7) k ≤ 2) : zCall G yX1_howManyAre YX1_howManyAre [.inr (some p), .inl w] M (fun v M' => M = M' ∧ v = some (.inl (zfor (fun k n => n + if M (p + 7) k = w then 1 else 0) 0 (M p 15) 0))) := by
  refine zEnter (by decide +kernel) rfl (Nat.le_of_ble_eq_true rfl) ?_
  refine z_iconst dX1_howManyAre_0 ?_
  refine z_istore_n dX1_howManyAre_1 (by decide) ?_
  refine z_iconst dX1_howManyAre_2 ?_
  refine z_istore_n dX1_howManyAre_3 (by decide) ?_
  have L : ∀ (n : Nat) (c : Int) (x : Int), (0 ≤ c ∧ c ≤ M p 15) → (c + n = M p 15 + 1) → (0 ≤ x ∧ x ≤ c) → (zfor (fun k n => n + if M (p + 7) k = w then 1 else 0) c (M p 15) x = zfor (fun k n => n + if M (p + 7) k = w then 1 else 0) 0 (M p 15) 0) → zW G YX1_howManyAre (fun v M' => M = M' ∧ v = some (.inl (zfor (fun k n => n + if M (p + 7) k = w then 1 else 0) 0 (M p 15) 0))) 4 [(3, .inl c), (2, .inl x), (0, .inr (some p)), (1, .inl w)] [] M := by
    intro n
    induction n with
    | zero => intro c x hc hcn hx he; exfalso; omega
    | succ n ih =>
      intro c x hc hcn hx he
      refine z_iload_n dX1_howManyAre_4 rfl ?_
      refine z_aload_n dX1_howManyAre_5 rfl ?_
      refine z_getI (kI := 15) dX1_howManyAre_6 fX1_67 (zP_r0 hp) (zm_sh_p0 hp) rfl rfl ?_
      refine z_icmp_ge (tgt := 31) dX1_howManyAre_9 (by decide) (by omega) (by omega) (fun c9 => ?_) (fun c9 => ?_)
      · rw [zfor_end (by omega)] at he
        refine z_iload_n dX1_howManyAre_31 rfl ?_
        refine z_iret dX1_howManyAre_32 rfl ?_
        exact ⟨rfl, by rw [he]⟩
      · have h7k := h7 c (by omega) (by omega)
        refine z_aload_n dX1_howManyAre_12 rfl ?_
        refine z_getR (b := (p + 7)) dX1_howManyAre_13 fX1_30 (zP_r0 hp) (zm_sh_p0 hp) rfl rfl ?_
        refine z_iload_n dX1_howManyAre_16 rfl ?_
        refine z_iaload dX1_howManyAre_17 (zP_r hp 7 (by decide)) (zm_sh_p hp 7 (by decide)) (by omega) (by decide) ?_
        refine z_iload_n dX1_howManyAre_18 rfl ?_
        refine z_icmp_ne (tgt := 25) dX1_howManyAre_19 (by decide) (by omega) (by omega) (fun c19 => ?_) (fun c19 => ?_)
        · refine z_iinc dX1_howManyAre_25 rfl (by decide) ?_
          refine z_goto (tgt := 4) dX1_howManyAre_28 (by decide) ?_
          rw [zfor_step (by omega)] at he
          first | (rw [if_pos (by omega)] at he; exact zsub' (ih (c + 1) _ (by omega) (by omega) (by omega) he) ⟨rfl, rfl, rfl, rfl, trivial⟩) | (rw [if_neg (by omega), Int.add_zero] at he; exact zsub' (ih (c + 1) _ (by omega) (by omega) (by omega) he) ⟨rfl, rfl, rfl, rfl, trivial⟩)
        · refine z_iinc dX1_howManyAre_22 rfl (by decide) ?_
          refine z_iinc dX1_howManyAre_25 rfl (by decide) ?_
          refine z_goto (tgt := 4) dX1_howManyAre_28 (by decide) ?_
          rw [zfor_step (by omega)] at he
          first | (rw [if_pos (by omega)] at he; exact zsub' (ih (c + 1) _ (by omega) (by omega) (by omega) he) ⟨rfl, rfl, rfl, rfl, trivial⟩) | (rw [if_neg (by omega), Int.add_zero] at he; exact zsub' (ih (c + 1) _ (by omega) (by omega) (by omega) he) ⟨rfl, rfl, rfl, rfl, trivial⟩)
  exact zsub' (L (M p 15 + 1).toNat 0 0 (by omega) (by omega) (by omega) rfl) ⟨rfl, rfl, rfl, rfl, trivial⟩

