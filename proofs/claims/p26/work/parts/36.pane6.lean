theorem sAct_3 {σ : zS} (hI : zI σ) {k a : Int} (hk : 0 ≤ k ∧ k < 9) (ha : 0 ≤ a ∧ a < 9) (h : σ (360 + 10 * k + 3) ≠ 2) : sAct σ a (360 + 10 * k + 3) ≠ 2 := by
  unfold sAct
  split
  · split
    · rename_i hc
      have hl := sCh_lt hc
      by_cases he : k = a
      · subst he
        rw [sCr_3 ⟨hI, hk, hl.1, hl.2.1⟩]
        split <;> omega
      · rw [sCr_off ⟨hI, ha, hl.1, hl.2.1⟩ (by omega)]
        exact h
    · rw [sRs_off (by omega) (by omega) (by omega) (by omega)]
      exact h
  · exact h
theorem sAll_30 (m : Int) (hm : m ≤ 9) {k : Int} (hk : 0 ≤ k ∧ k < 9) : ∀ (n : Nat) (i : Int) (σ : zS), 0 ≤ i → i + n = m → zA σ → σ (360 + 10 * k + 3) ≠ 2 → zfor (fun k s => sAct s k) i m σ (360 + 10 * k + 3) ≠ 2
  | 0, i, σ, h0, h, hA, h2 => by rw [zfor_end (by omega)]; exact h2
  | n + 1, i, σ, h0, h, hA, h2 => by
    rw [zfor_step (by omega)]
    exact sAll_30 m hm hk n (i + 1) _ (by omega) (by omega) (zA_act hA (by omega)).1 (sAct_3 hA.1 hk (by omega) h2)
theorem sTurn_3 {σ : zS} (hA : zA σ) {k : Int} (hk : 0 ≤ k ∧ k < 9) (h : σ (360 + 10 * k + 3) ≠ 2) : sTurn σ (360 + 10 * k + 3) ≠ 2 := by
  have hs := hA.1.1
  unfold zIs at hs
  unfold sTurn
  rw [sGrow_o _ _ (by omega), show sTick (sDry (sAge (sAll σ))) (360 + 10 * k + 3) = sDry (sAge (sAll σ)) (360 + 10 * k + 3) from zu_ne (by omega), sDry_o _ (by omega), sAge_o _ (by omega)]
  exact sAll_30 (σ 535) (by omega) hk (σ 535).toNat 0 σ (by omega) (by omega) hA h
def zLen (i : Int) : Int := if i ≤ 3 then 120 else if i = 24 then 4 else 9
def zCp (M : zM) (p q w : Int) (N : zM) : Prop := (∀ a : Int, (a < p + 1 ∨ p + w ≤ a) → N a = M a) ∧ (∀ i : Int, 1 ≤ i → i < w → i ≠ 14 → ∀ j : Int, 0 ≤ j → j < zLen i → N (p + i) j = M (q + i) j)
theorem zCp.rf (M : zM) (p q : Int) : zCp M p q 1 M := ⟨fun _ _ => rfl, fun i q1 q2 => by omega⟩
theorem zCp.sk {M N : zM} {p q : Int} (h : zCp M p q 14 N) : zCp M p q 15 N := ⟨fun a ha => h.1 a (by omega), fun i q1 q2 q3 => h.2 i q1 (by omega) q3⟩
theorem zCp.st {M N : zM} {p q w a b n : Int} (h : zCp M p q w N) (hw : 1 ≤ w ∧ w < 25) (hd : p + 25 ≤ q ∨ q + 25 ≤ p) (ha : a = q + w) (hb : b = p + w) (hn : n = zLen w) : zCp M p q (w + 1) (zm_cp N a b n) := by
  subst ha hb hn
  refine ⟨fun a ha => ?_, fun i q1 q2 q3 j j1 j2 => ?_⟩
  · rw [show zm_cp N (q + w) (p + w) (zLen w) a = N a from by funext j; unfold zm_cp; rw [if_neg (by omega)]]
    exact h.1 a (by omega)
  · by_cases hi : i = w
    · subst hi
      unfold zm_cp
      rw [if_pos ⟨rfl, j1, j2⟩, h.1 (q + i) (by omega)]
    · unfold zm_cp
      rw [if_neg (by omega)]
      exact h.2 i q1 (by omega) q3 j j1 j2
theorem zCp.rel {M N : zM} {p q x y : Int} {σ : zS} (h : zCp M p q 25 N) (hI : zI σ) (hR : zRel M q σ) (hx : x = σ 535) (hy : y = σ 536) : zRel (zm_up (zm_up N p 15 x) p 16 y) p σ := by
  have hs := hI.1
  unfold zIs at hs
  obtain ⟨h1, h2, h3, h4, h5, h6, h7⟩ := hR
  have f : ∀ i j : Int, 1 ≤ i → i < 25 → i ≠ 14 → 0 ≤ j → j < zLen i → zm_up (zm_up N p 15 x) p 16 y (p + i) j = M (q + i) j := fun i j q1 q2 q3 q4 q5 => by
    rw [zm_up_off (by omega), zm_up_off (by omega)]
    exact h.2 i q1 q2 q3 j q4 q5
  refine ⟨fun c q1 q2 => ?_, fun k q1 q2 => ?_, fun k q1 q2 => ?_, fun a b q1 q2 q3 q4 => ?_, ?_, ?_, ?_⟩
  · have := h1 c q1 q2
    unfold zRc at this ⊢
    rw [f 1 c (by omega) (by omega) (by omega) q1 (by unfold zLen; omega), f 2 c (by omega) (by omega) (by omega) q1 (by unfold zLen; omega), f 3 c (by omega) (by omega) (by omega) q1 (by unfold zLen; omega)]
    exact this
  · have := h2 k q1 q2
    unfold zRk at this ⊢
    rw [f 4 k (by omega) (by omega) (by omega) q1 (by unfold zLen; omega), f 5 k (by omega) (by omega) (by omega) q1 (by unfold zLen; omega), f 6 k (by omega) (by omega) (by omega) q1 (by unfold zLen; omega), f 7 k (by omega) (by omega) (by omega) q1 (by unfold zLen; omega), f 8 k (by omega) (by omega) (by omega) q1 (by unfold zLen; omega), f 9 k (by omega) (by omega) (by omega) q1 (by unfold zLen; omega), f 10 k (by omega) (by omega) (by omega) q1 (by unfold zLen; omega), f 11 k (by omega) (by omega) (by omega) q1 (by unfold zLen; omega), f 12 k (by omega) (by omega) (by omega) q1 (by unfold zLen; omega), f 13 k (by omega) (by omega) (by omega) q1 (by unfold zLen; omega)]
    exact this
  · have := h3 k q1 q2
    unfold zRe at this ⊢
    rw [f 7 k (by omega) (by omega) (by omega) (by omega) (by unfold zLen; omega), f 8 k (by omega) (by omega) (by omega) (by omega) (by unfold zLen; omega), f 9 k (by omega) (by omega) (by omega) (by omega) (by unfold zLen; omega), f 10 k (by omega) (by omega) (by omega) (by omega) (by unfold zLen; omega), f 11 k (by omega) (by omega) (by omega) (by omega) (by unfold zLen; omega), f 12 k (by omega) (by omega) (by omega) (by omega) (by unfold zLen; omega), f 13 k (by omega) (by omega) (by omega) (by omega) (by unfold zLen; omega)]
    exact this
  · have := h4 a b q1 q2 q3 q4
    unfold zRo at this ⊢
    rw [show p + 15 + a = p + (15 + a) from by omega, f (15 + a) b (by omega) (by omega) (by omega) q3 (by unfold zLen; omega), show q + (15 + a) = q + 15 + a from by omega]
    exact this
  · rw [f 24 0 (by omega) (by omega) (by omega) (by omega) (by unfold zLen; omega), f 24 1 (by omega) (by omega) (by omega) (by omega) (by unfold zLen; omega), f 24 2 (by omega) (by omega) (by omega) (by omega) (by unfold zLen; omega), f 24 3 (by omega) (by omega) (by omega) (by omega) (by unfold zLen; omega)]
    exact h5
  · rw [zm_up_ne (by omega), zm_up_at]
    exact hx
  · rw [zm_up_at]
    exact hy
theorem zCp.off {M N : zM} {p q x y : Int} (h : zCp M p q 25 N) : zOff M (zm_up (zm_up N p 15 x) p 16 y) p := fun a ha => by
  rw [zm_up_off (by omega), zm_up_off (by omega)]
  exact h.1 a (by omega)

theorem vX4_copy {G : zG} {M : zM} {a b : Int} {n : Nat} (ha : 0 ≤ a ∧ a < 187) (hs : zm_sh a = .inl (0, n)) (hb : 0 ≤ b ∧ b < 187) (ht : zm_sh b = .inl (0, n)) (hn : n ≤ 1000) : zCall G yX4_copy YX4_copy [.inr (some a), .inr (some b)] M (fun v M' => v = none ∧ M' = zm_cp M a b n) := by
  refine zEnter (by decide +kernel) rfl (Nat.le_of_ble_eq_true rfl) ?_
  refine z_aload_n dX4_copy_0 rfl ?_
  refine z_iconst dX4_copy_1 ?_
  refine z_aload_n dX4_copy_2 rfl ?_
  refine z_iconst dX4_copy_3 ?_
  refine z_aload_n dX4_copy_4 rfl ?_
  refine z_alen dX4_copy_5 ha hs (by omega) ?_
  refine z_aload_n dX4_copy_6 rfl ?_
  refine z_alen dX4_copy_7 hb ht (by omega) ?_
  refine z_min dX4_copy_8 kX4_184 pMinS pMinI pMinC (by decide) (Nat.le_of_ble_eq_true rfl) (by omega) (by omega) ?_
  refine z_ncopy dX4_copy_11 kX4_189 pCpyN pCpyS pCpyI (by decide) (by show _ ≤ 8; simp) ha hs hb ht (by omega) (fun N11 hN11 => ?_)
  refine z_vret dX4_copy_14 rfl ?_
  refine ⟨rfl, ?_⟩
  rw [hN11, show min (n : Int) n = n from by omega]

theorem vX1_copyFrom {G : zG} {M : zM} {σ : zS} {p q : Int} (hp : zP p) (hq : zP q) (hd : p + 25 ≤ q ∨ q + 25 ≤ p) (hR : zRel M q σ) (hI : zI σ) : zCall G yX1_copyFrom YX1_copyFrom [.inr (some p), .inr (some q)] M (fun v M' => v = none ∧ zRel M' p σ ∧ zOff M M' p) := by
  refine zEnter (by decide +kernel) rfl (Nat.le_of_ble_eq_true rfl) ?_
  have hR5 := hR.2.2.2.2.2.1
  have hR6 := hR.2.2.2.2.2.2
  refine z_aload_n dX1_copyFrom_0 rfl ?_
  refine z_getR (b := (q + 1)) dX1_copyFrom_1 fX1_9 (zP_r0 hq) (zm_sh_p0 hq) rfl rfl ?_
  refine z_aload_n dX1_copyFrom_4 rfl ?_
  refine z_getR (b := (p + 1)) dX1_copyFrom_5 fX1_9 (zP_r0 hp) (zm_sh_p0 hp) rfl rfl ?_
  refine z_callSN mX4_copy (vX4_copy (n := 120) (zP_r hq 1 (by decide)) (zm_sh_p hq 1 (by decide)) (zP_r hp 1 (by decide)) (zm_sh_p hp 1 (by decide)) (by decide)) rfl dX1_copyFrom_8 kX1_80 (by decide) rfl (by show _ ≤ 8; simp) (fun v8 M8 q8 => ?_)
  obtain ⟨rfl, hm1⟩ := q8
  try simp only [zpush]
  have z1 := zCp.st (zCp.rf M p q) (w := 1) (by omega) hd rfl rfl (show ((120 : Nat) : Int) = zLen 1 from rfl)
  rw [← hm1] at z1
  clear hm1
  refine z_aload_n dX1_copyFrom_11 rfl ?_
  refine z_getR (b := (q + 2)) dX1_copyFrom_12 fX1_15 (zP_r0 hq) (zm_sh_p0 hq) rfl rfl ?_
  refine z_aload_n dX1_copyFrom_15 rfl ?_
  refine z_getR (b := (p + 2)) dX1_copyFrom_16 fX1_15 (zP_r0 hp) (zm_sh_p0 hp) rfl rfl ?_
  refine z_callSN mX4_copy (vX4_copy (n := 120) (zP_r hq 2 (by decide)) (zm_sh_p hq 2 (by decide)) (zP_r hp 2 (by decide)) (zm_sh_p hp 2 (by decide)) (by decide)) rfl dX1_copyFrom_19 kX1_80 (by decide) rfl (by show _ ≤ 8; simp) (fun v19 M19 q19 => ?_)
  obtain ⟨rfl, hm2⟩ := q19
  try simp only [zpush]
  have z2 := zCp.st z1 (w := 2) (by omega) hd rfl rfl (show ((120 : Nat) : Int) = zLen 2 from rfl)
  rw [← hm2] at z2
  clear hm2
  refine z_aload_n dX1_copyFrom_22 rfl ?_
  refine z_getR (b := (q + 3)) dX1_copyFrom_23 fX1_18 (zP_r0 hq) (zm_sh_p0 hq) rfl rfl ?_
  refine z_aload_n dX1_copyFrom_26 rfl ?_
  refine z_getR (b := (p + 3)) dX1_copyFrom_27 fX1_18 (zP_r0 hp) (zm_sh_p0 hp) rfl rfl ?_
  refine z_callSN mX4_copy (vX4_copy (n := 120) (zP_r hq 3 (by decide)) (zm_sh_p hq 3 (by decide)) (zP_r hp 3 (by decide)) (zm_sh_p hp 3 (by decide)) (by decide)) rfl dX1_copyFrom_30 kX1_80 (by decide) rfl (by show _ ≤ 8; simp) (fun v30 M30 q30 => ?_)
  obtain ⟨rfl, hm3⟩ := q30
  try simp only [zpush]
  have z3 := zCp.st z2 (w := 3) (by omega) hd rfl rfl (show ((120 : Nat) : Int) = zLen 3 from rfl)
  rw [← hm3] at z3
  clear hm3
  refine z_aload_n dX1_copyFrom_33 rfl ?_
  refine z_getR (b := (q + 4)) dX1_copyFrom_34 fX1_21 (zP_r0 hq) (zm_sh_p0 hq) rfl rfl ?_
  refine z_aload_n dX1_copyFrom_37 rfl ?_
  refine z_getR (b := (p + 4)) dX1_copyFrom_38 fX1_21 (zP_r0 hp) (zm_sh_p0 hp) rfl rfl ?_
  refine z_callSN mX4_copy (vX4_copy (n := 9) (zP_r hq 4 (by decide)) (zm_sh_p hq 4 (by decide)) (zP_r hp 4 (by decide)) (zm_sh_p hp 4 (by decide)) (by decide)) rfl dX1_copyFrom_41 kX1_80 (by decide) rfl (by show _ ≤ 8; simp) (fun v41 M41 q41 => ?_)
  obtain ⟨rfl, hm4⟩ := q41
  try simp only [zpush]
  have z4 := zCp.st z3 (w := 4) (by omega) hd rfl rfl (show ((9 : Nat) : Int) = zLen 4 from rfl)
  rw [← hm4] at z4
  clear hm4
  refine z_aload_n dX1_copyFrom_44 rfl ?_
  refine z_getR (b := (q + 5)) dX1_copyFrom_45 fX1_24 (zP_r0 hq) (zm_sh_p0 hq) rfl rfl ?_
  refine z_aload_n dX1_copyFrom_48 rfl ?_
  refine z_getR (b := (p + 5)) dX1_copyFrom_49 fX1_24 (zP_r0 hp) (zm_sh_p0 hp) rfl rfl ?_
  refine z_callSN mX4_copy (vX4_copy (n := 9) (zP_r hq 5 (by decide)) (zm_sh_p hq 5 (by decide)) (zP_r hp 5 (by decide)) (zm_sh_p hp 5 (by decide)) (by decide)) rfl dX1_copyFrom_52 kX1_80 (by decide) rfl (by show _ ≤ 8; simp) (fun v52 M52 q52 => ?_)
  obtain ⟨rfl, hm5⟩ := q52
  try simp only [zpush]
  have z5 := zCp.st z4 (w := 5) (by omega) hd rfl rfl (show ((9 : Nat) : Int) = zLen 5 from rfl)
  rw [← hm5] at z5
  clear hm5
  refine z_aload_n dX1_copyFrom_55 rfl ?_
  refine z_getR (b := (q + 6)) dX1_copyFrom_56 fX1_27 (zP_r0 hq) (zm_sh_p0 hq) rfl rfl ?_
  refine z_aload_n dX1_copyFrom_59 rfl ?_
  refine z_getR (b := (p + 6)) dX1_copyFrom_60 fX1_27 (zP_r0 hp) (zm_sh_p0 hp) rfl rfl ?_
  refine z_callSN mX4_copy (vX4_copy (n := 9) (zP_r hq 6 (by decide)) (zm_sh_p hq 6 (by decide)) (zP_r hp 6 (by decide)) (zm_sh_p hp 6 (by decide)) (by decide)) rfl dX1_copyFrom_63 kX1_80 (by decide) rfl (by show _ ≤ 8; simp) (fun v63 M63 q63 => ?_)
  obtain ⟨rfl, hm6⟩ := q63
  try simp only [zpush]
  have z6 := zCp.st z5 (w := 6) (by omega) hd rfl rfl (show ((9 : Nat) : Int) = zLen 6 from rfl)
  rw [← hm6] at z6
  clear hm6
  refine z_aload_n dX1_copyFrom_66 rfl ?_
  refine z_getR (b := (q + 7)) dX1_copyFrom_67 fX1_30 (zP_r0 hq) (zm_sh_p0 hq) rfl rfl ?_
  refine z_aload_n dX1_copyFrom_70 rfl ?_
  refine z_getR (b := (p + 7)) dX1_copyFrom_71 fX1_30 (zP_r0 hp) (zm_sh_p0 hp) rfl rfl ?_
  refine z_callSN mX4_copy (vX4_copy (n := 9) (zP_r hq 7 (by decide)) (zm_sh_p hq 7 (by decide)) (zP_r hp 7 (by decide)) (zm_sh_p hp 7 (by decide)) (by decide)) rfl dX1_copyFrom_74 kX1_80 (by decide) rfl (by show _ ≤ 8; simp) (fun v74 M74 q74 => ?_)
  obtain ⟨rfl, hm7⟩ := q74
  try simp only [zpush]
  have z7 := zCp.st z6 (w := 7) (by omega) hd rfl rfl (show ((9 : Nat) : Int) = zLen 7 from rfl)
  rw [← hm7] at z7
  clear hm7
  refine z_aload_n dX1_copyFrom_77 rfl ?_
  refine z_getR (b := (q + 8)) dX1_copyFrom_78 fX1_33 (zP_r0 hq) (zm_sh_p0 hq) rfl rfl ?_
  refine z_aload_n dX1_copyFrom_81 rfl ?_
  refine z_getR (b := (p + 8)) dX1_copyFrom_82 fX1_33 (zP_r0 hp) (zm_sh_p0 hp) rfl rfl ?_
  refine z_callSN mX4_copy (vX4_copy (n := 9) (zP_r hq 8 (by decide)) (zm_sh_p hq 8 (by decide)) (zP_r hp 8 (by decide)) (zm_sh_p hp 8 (by decide)) (by decide)) rfl dX1_copyFrom_85 kX1_80 (by decide) rfl (by show _ ≤ 8; simp) (fun v85 M85 q85 => ?_)
  obtain ⟨rfl, hm8⟩ := q85
  try simp only [zpush]
  have z8 := zCp.st z7 (w := 8) (by omega) hd rfl rfl (show ((9 : Nat) : Int) = zLen 8 from rfl)
  rw [← hm8] at z8
  clear hm8
  refine z_aload_n dX1_copyFrom_88 rfl ?_
  refine z_getR (b := (q + 9)) dX1_copyFrom_89 fX1_36 (zP_r0 hq) (zm_sh_p0 hq) rfl rfl ?_
  refine z_aload_n dX1_copyFrom_92 rfl ?_
  refine z_getR (b := (p + 9)) dX1_copyFrom_93 fX1_36 (zP_r0 hp) (zm_sh_p0 hp) rfl rfl ?_
  refine z_callSN mX4_copy (vX4_copy (n := 9) (zP_r hq 9 (by decide)) (zm_sh_p hq 9 (by decide)) (zP_r hp 9 (by decide)) (zm_sh_p hp 9 (by decide)) (by decide)) rfl dX1_copyFrom_96 kX1_80 (by decide) rfl (by show _ ≤ 8; simp) (fun v96 M96 q96 => ?_)
  obtain ⟨rfl, hm9⟩ := q96
  try simp only [zpush]
  have z9 := zCp.st z8 (w := 9) (by omega) hd rfl rfl (show ((9 : Nat) : Int) = zLen 9 from rfl)
  rw [← hm9] at z9
  clear hm9
  refine z_aload_n dX1_copyFrom_99 rfl ?_
  refine z_getR (b := (q + 10)) dX1_copyFrom_100 fX1_39 (zP_r0 hq) (zm_sh_p0 hq) rfl rfl ?_
  refine z_aload_n dX1_copyFrom_103 rfl ?_
  refine z_getR (b := (p + 10)) dX1_copyFrom_104 fX1_39 (zP_r0 hp) (zm_sh_p0 hp) rfl rfl ?_
  refine z_callSN mX4_copy (vX4_copy (n := 9) (zP_r hq 10 (by decide)) (zm_sh_p hq 10 (by decide)) (zP_r hp 10 (by decide)) (zm_sh_p hp 10 (by decide)) (by decide)) rfl dX1_copyFrom_107 kX1_80 (by decide) rfl (by show _ ≤ 8; simp) (fun v107 M107 q107 => ?_)
  obtain ⟨rfl, hm10⟩ := q107
  try simp only [zpush]
  have z10 := zCp.st z9 (w := 10) (by omega) hd rfl rfl (show ((9 : Nat) : Int) = zLen 10 from rfl)
  rw [← hm10] at z10
  clear hm10
  refine z_aload_n dX1_copyFrom_110 rfl ?_
  refine z_getR (b := (q + 11)) dX1_copyFrom_111 fX1_42 (zP_r0 hq) (zm_sh_p0 hq) rfl rfl ?_
  refine z_aload_n dX1_copyFrom_114 rfl ?_
  refine z_getR (b := (p + 11)) dX1_copyFrom_115 fX1_42 (zP_r0 hp) (zm_sh_p0 hp) rfl rfl ?_
  refine z_callSN mX4_copy (vX4_copy (n := 9) (zP_r hq 11 (by decide)) (zm_sh_p hq 11 (by decide)) (zP_r hp 11 (by decide)) (zm_sh_p hp 11 (by decide)) (by decide)) rfl dX1_copyFrom_118 kX1_80 (by decide) rfl (by show _ ≤ 8; simp) (fun v118 M118 q118 => ?_)
  obtain ⟨rfl, hm11⟩ := q118
  try simp only [zpush]
  have z11 := zCp.st z10 (w := 11) (by omega) hd rfl rfl (show ((9 : Nat) : Int) = zLen 11 from rfl)
  rw [← hm11] at z11
  clear hm11
  refine z_aload_n dX1_copyFrom_121 rfl ?_
  refine z_getR (b := (q + 12)) dX1_copyFrom_122 fX1_45 (zP_r0 hq) (zm_sh_p0 hq) rfl rfl ?_
  refine z_aload_n dX1_copyFrom_125 rfl ?_
  refine z_getR (b := (p + 12)) dX1_copyFrom_126 fX1_45 (zP_r0 hp) (zm_sh_p0 hp) rfl rfl ?_
  refine z_callSN mX4_copy (vX4_copy (n := 9) (zP_r hq 12 (by decide)) (zm_sh_p hq 12 (by decide)) (zP_r hp 12 (by decide)) (zm_sh_p hp 12 (by decide)) (by decide)) rfl dX1_copyFrom_129 kX1_80 (by decide) rfl (by show _ ≤ 8; simp) (fun v129 M129 q129 => ?_)
  obtain ⟨rfl, hm12⟩ := q129
  try simp only [zpush]
  have z12 := zCp.st z11 (w := 12) (by omega) hd rfl rfl (show ((9 : Nat) : Int) = zLen 12 from rfl)
  rw [← hm12] at z12
  clear hm12
  refine z_aload_n dX1_copyFrom_132 rfl ?_
  refine z_getR (b := (q + 13)) dX1_copyFrom_133 fX1_48 (zP_r0 hq) (zm_sh_p0 hq) rfl rfl ?_
  refine z_aload_n dX1_copyFrom_136 rfl ?_
  refine z_getR (b := (p + 13)) dX1_copyFrom_137 fX1_48 (zP_r0 hp) (zm_sh_p0 hp) rfl rfl ?_
  refine z_callSN mX4_copy (vX4_copy (n := 9) (zP_r hq 13 (by decide)) (zm_sh_p hq 13 (by decide)) (zP_r hp 13 (by decide)) (zm_sh_p hp 13 (by decide)) (by decide)) rfl dX1_copyFrom_140 kX1_80 (by decide) rfl (by show _ ≤ 8; simp) (fun v140 M140 q140 => ?_)
  obtain ⟨rfl, hm13⟩ := q140
  try simp only [zpush]
  have z13 := zCp.st z12 (w := 13) (by omega) hd rfl rfl (show ((9 : Nat) : Int) = zLen 13 from rfl)
  rw [← hm13] at z13
  clear hm13
  refine z_iconst dX1_copyFrom_143 ?_
  refine z_istore_n dX1_copyFrom_144 (by decide) ?_
  have L : ∀ (n : Nat) (i : Int) (N : zM), (0 ≤ i ∧ i ≤ 9) → (i + n = 10) → (zCp M p q (15 + i) N) → zW G YX1_copyFrom (fun v M' => v = none ∧ zRel M' p σ ∧ zOff M M' p) 145 [(2, .inl i), (0, .inr (some p)), (1, .inr (some q))] [] N := by
    intro n
    induction n with
    | zero => intro i N hi hin hN; exfalso; omega
    | succ n ih =>
      intro i N hi hin hN
      refine z_iload_n dX1_copyFrom_145 rfl ?_
      refine z_bipush dX1_copyFrom_146 (by decide) ?_
      refine z_icmp_ge (tgt := 172) dX1_copyFrom_148 (by decide) (by omega) (by omega) (fun c148 => ?_) (fun c148 => ?_)
      · have hi9 : i = 9 := by omega
        subst hi9
        refine z_aload_n dX1_copyFrom_172 rfl ?_
        refine z_getR (b := (q + 24)) dX1_copyFrom_173 fX1_64 (zP_r0 hq) (zm_sh_p0 hq) rfl rfl ?_
        refine z_aload_n dX1_copyFrom_176 rfl ?_
        refine z_getR (b := (p + 24)) dX1_copyFrom_177 fX1_64 (zP_r0 hp) (zm_sh_p0 hp) rfl rfl ?_
        refine z_callSN mX4_copy (vX4_copy (n := 4) (zP_r hq 24 (by decide)) (zm_sh_p hq 24 (by decide)) (zP_r hp 24 (by decide)) (zm_sh_p hp 24 (by decide)) (by decide)) rfl dX1_copyFrom_180 kX1_80 (by decide) rfl (by show _ ≤ 8; simp) (fun v180 M180 q180 => ?_)
        obtain ⟨rfl, hm⟩ := q180
        try simp only [zpush]
        have zz := zCp.st hN (w := 24) (by omega) hd rfl rfl (show ((4 : Nat) : Int) = zLen 24 from rfl)
        rw [← hm] at zz
        refine z_aload_n dX1_copyFrom_183 rfl ?_
        refine z_aload_n dX1_copyFrom_184 rfl ?_
        refine z_getI (kI := 15) dX1_copyFrom_185 fX1_67 (zP_r0 hq) (zm_sh_p0 hq) rfl rfl ?_
        refine z_nput (kI := 15) dX1_copyFrom_188 fX1_67 rfl (Or.inl rfl) (zP_r0 hp) (zm_sh_p0 hp) rfl rfl (fun N188 hN188 => ?_)
        refine z_aload_n dX1_copyFrom_191 rfl ?_
        refine z_aload_n dX1_copyFrom_192 rfl ?_
        refine z_getI (kI := 16) dX1_copyFrom_193 fX1_71 (zP_r0 hq) (zm_sh_p0 hq) rfl rfl ?_
        refine z_nput (kI := 16) dX1_copyFrom_196 fX1_71 rfl (Or.inl rfl) (zP_r0 hp) (zm_sh_p0 hp) rfl rfl (fun N196 hN196 => ?_)
        refine z_vret dX1_copyFrom_199 rfl ?_
        subst hN188
        have e1 : M180 q = M q := zz.1 q (by omega)
        subst hN196
        refine ⟨rfl, zz.rel hI hR (by rw [e1, hR5]) (by rw [zm_up_off (show q ≠ p by omega), e1, hR6]), zz.off⟩
      · refine z_aload_n dX1_copyFrom_151 rfl ?_
        refine z_getR (b := (q + 14)) dX1_copyFrom_152 fX1_53 (zP_r0 hq) (zm_sh_p0 hq) rfl rfl ?_
        refine z_iload_n dX1_copyFrom_155 rfl ?_
        refine z_aaload (b := (q + 15 + i)) dX1_copyFrom_156 (zP_r hq 14 (by decide)) (zm_sh_p hq 14 (by decide)) (by decide) (by omega) (by decide) rfl (by omega) ?_
        refine z_aload_n dX1_copyFrom_157 rfl ?_
        refine z_getR (b := (p + 14)) dX1_copyFrom_158 fX1_53 (zP_r0 hp) (zm_sh_p0 hp) rfl rfl ?_
        refine z_iload_n dX1_copyFrom_161 rfl ?_
        refine z_aaload (b := (p + 15 + i)) dX1_copyFrom_162 (zP_r hp 14 (by decide)) (zm_sh_p hp 14 (by decide)) (by decide) (by omega) (by decide) rfl (by omega) ?_
        refine z_callSN mX4_copy (vX4_copy (n := 9) (zr_row hq (by omega)) (zsh_row hq (by omega)) (zr_row hp (by omega)) (zsh_row hp (by omega)) (by decide)) rfl dX1_copyFrom_163 kX1_80 (by decide) rfl (by show _ ≤ 8; simp) (fun v163 M163 q163 => ?_)
        obtain ⟨rfl, hm⟩ := q163
        try simp only [zpush]
        refine z_iinc dX1_copyFrom_166 rfl (by decide) ?_
        refine z_goto (tgt := 145) dX1_copyFrom_169 (by decide) ?_
        refine zsub' (ih (i + 1) _ (by omega) (by omega) ?_) ⟨rfl, rfl, rfl, trivial⟩
        have zz := hN.st (by omega) hd (show q + 15 + i = q + (15 + i) from by omega) (show p + 15 + i = p + (15 + i) from by omega) (show ((9 : Nat) : Int) = zLen (15 + i) from by unfold zLen; rw [if_neg (by omega), if_neg (by omega)]; rfl)
        rw [← hm] at zz
        rw [show 15 + (i + 1) = 15 + i + 1 from by omega]
        exact zz
  exact zsub' (L 10 0 _ (by omega) (by omega) z13.sk) ⟨rfl, rfl, rfl, trivial⟩

