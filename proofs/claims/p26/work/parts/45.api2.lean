def sBarO (σ : zS) (k : Int) : Int := if ¬ (0 ≤ k ∧ k < σ 535) then -1 else if ¬ σ (360 + 10 * k + 3) = 0 then -4 else 0
theorem sAct_7 {σ : zS} (hI : zI σ) {k : Int} (hk : 0 ≤ k ∧ k < 9) : σ 537 ≤ sAct σ k 537 := by
  unfold sAct
  split
  · split
    · rename_i hc
      have hl := sCh_lt hc
      rw [sCr_537 ⟨hI, hk, hl.1, hl.2.1⟩]
      split <;> omega
    · rw [sRs_off (by omega) (by omega) (by omega) (by omega)]
      exact Int.le_refl _
  · exact Int.le_refl _
theorem sAll_7 (m : Int) (hm : m ≤ 9) : ∀ (n : Nat) (i : Int) (σ : zS), 0 ≤ i → i + n = m → zA σ → σ 537 ≤ zfor (fun k s => sAct s k) i m σ 537
  | 0, i, σ, h0, h, hA => by rw [zfor_end (by omega)]; exact Int.le_refl _
  | n + 1, i, σ, h0, h, hA => by
    rw [zfor_step (by omega)]
    exact Int.le_trans (sAct_7 hA.1 (by omega)) (sAll_7 m hm n (i + 1) _ (by omega) (by omega) (zA_act hA (by omega)).1)
theorem sTurn_7 {σ : zS} (hA : zA σ) : σ 537 ≤ sTurn σ 537 := by
  have hs := hA.1.1
  unfold zIs at hs
  unfold sTurn
  rw [sGrow_o _ _ (by omega), show sTick (sDry (sAge (sAll σ))) 537 = sDry (sAge (sAll σ)) 537 from zu_ne (by omega), sDry_o _ (by omega), sAge_o _ (by omega)]
  exact sAll_7 (σ 535) (by omega) (σ 535).toNat 0 σ (by omega) (by omega) hA
theorem sTs_70 (m : Int) : ∀ (n : Nat) (i : Int) (σ : zS), i + n = m → zA σ → σ 537 ≤ zfor (fun _ s => sTurn s) i m σ 537
  | 0, i, σ, h, hA => by rw [zfor_end (by omega)]; exact Int.le_refl _
  | n + 1, i, σ, h, hA => by
    rw [zfor_step (by omega)]
    exact Int.le_trans (sTurn_7 hA) (sTs_70 m n (i + 1) _ (by omega) (zA_turn hA).1)
theorem sTs_7 {σ : zS} (hA : zA σ) (hX : zX σ) {t : Int} (ht : 0 ≤ t) : 0 ≤ sTs t σ 537 - σ 537 ∧ sTs t σ 537 - σ 537 ≤ 9 := by
  have h1 := sTs_70 t t.toNat 0 σ (by omega) hA
  have hz := zA_ts hA ht
  have hs := hz.1.1.1
  unfold zIs at hs
  have h2 := (zX_ts hA hX ht).r (by omega)
  have hs0 := hA.1.1
  unfold zIs at hs0
  have h3 := hX.r (by omega)
  have h4 : σ 537 ≤ sTs t σ 537 := h1
  omega
theorem sBarSet_r (σ : zS) (w x : Int) : -5 ≤ sBarSet σ w x ∧ sBarSet σ w x ≤ 0 := by
  unfold sBarSet
  repeat' split
  all_goals omega
theorem sBarO_r (σ : zS) (k : Int) : -5 ≤ sBarO σ k ∧ sBarO σ k ≤ 0 := by
  unfold sBarO
  repeat' split
  all_goals omega

theorem vX4_set {G : zG} {M : zM} {σ : zS} {w x : Int} (hw : -2147483648 ≤ w ∧ w < 2147483648) (hx : -2147483648 ≤ x ∧ x < 2147483648)  (hR : zRel M 0 σ) (hB : zB σ) (hX : zX σ) (h1 : 0 ≤ M 176 1 ∧ M 176 1 ≤ 4) (h2 : 0 ≤ M 176 2 ∧ M 176 2 < 4) : zCall G yX4_set YX4_set [.inr (some 175), .inl w, .inl x] M (fun v M' => zActP M σ (sBarSet σ w x) ((if sBarSet σ w x = 0 then σ (531 + w) else 0)) (sDry (zu σ (531 + w) x)) v M') := by
  refine zEnter (by decide +kernel) rfl (Nat.le_of_ble_eq_true rfl) ?_
  have hA := hB.1
  have hI := hA.1
  have hs9 := hI.1
  unfold zIs at hs9
  have h8 := hB.2.1
  have ht0 := hB.2.2
  refine z_aload_n dX4_set_0 rfl ?_
  refine z_getR (b := 25) dX4_set_1 fX4_16 (by decide) (zsh175) rfl rfl ?_
  refine z_aload_n dX4_set_4 rfl ?_
  refine z_getR (b := 0) dX4_set_5 fX4_12 (by decide) (zsh175) rfl rfl ?_
  refine z_callV mX1_copyFrom (vX1_copyFrom zP_25 zP_0 (by decide) hR hI) rfl dX4_set_8 kX4_54 (by decide) rfl (by show _ ≤ 8; simp) (zP_r0 (zP_25)) (zm_sh_p0 (zP_25)) (by decide) rfl (fun v8 M8 q8 => ?_)
  obtain ⟨rfl, hR25, hO25⟩ := q8
  try simp only [zpush]
  have hR0 := hR.mv (N := M8) (fun a q1 q2 => hO25 a (by omega))
  refine z_aload_n dX4_set_11 rfl ?_
  refine z_aload_n dX4_set_12 rfl ?_
  refine z_getR (b := 0) dX4_set_13 fX4_12 (by decide) (zsh175) rfl rfl ?_
  refine z_iload_n dX4_set_16 rfl ?_
  refine z_iload_n dX4_set_17 rfl ?_
  refine z_callV mX1_changeSetting (vX1_changeSetting zP_0 hR0 (by omega) (by omega) hI) rfl dX4_set_18 kX4_73 (by decide) rfl (by show _ ≤ 8; simp) (zP_r0 (zP_0)) (zm_sh_p0 (zP_0)) (by decide) rfl (fun v18 M18 q18 => ?_)
  have hex : ∃ zz : Int, v18 = some (.inl zz) ∧ ((sBarSet σ w x < 0 ∧ zz = sBarSet σ w x ∧ M18 = M8) ∨ (sBarSet σ w x = 0 ∧ zz = (if sBarSet σ w x = 0 then σ (531 + w) else 0) ∧ zRel M18 0 (sDry (zu σ (531 + w) x)) ∧ zOff M8 M18 0)) := by
    rcases q18 with ⟨a1, a2, a3⟩ | ⟨a1, a2, a3⟩
    · exact ⟨_, a2, Or.inl ⟨a1, rfl, a3⟩⟩
    · exact ⟨_, a2, Or.inr ⟨a1, by rw [if_pos a1], a3⟩⟩
  obtain ⟨x18, rfl, hx⟩ := hex
  try simp only [zpush]
  have hbr := sBarSet_r σ w x
  have hfr : 0 ≤ (if sBarSet σ w x = 0 then σ (531 + w) else 0) ∧ (if sBarSet σ w x = 0 then σ (531 + w) else 0) ≤ 99 := by
    by_cases e : sBarSet σ w x = 0
    · rw [if_pos e]
      have hw : 0 ≤ w ∧ w ≤ 3 := by
        unfold sBarSet at e
        by_cases q : 0 ≤ w ∧ w ≤ 3
        · exact q
        · rw [if_pos q] at e; exact absurd e (by decide)
      rcases (show w = 0 ∨ w = 1 ∨ w = 2 ∨ w = 3 by omega) with q | q | q | q <;> (subst q; simp only [Int.reduceAdd]; omega)
    · rw [if_neg e]; decide
  have hR25b : zRel M18 25 σ := by
    rcases hx with ⟨_, _, e⟩ | ⟨_, _, _, e⟩
    · rw [e]; exact hR25
    · exact hR25.mv (fun a q1 q2 => e a (by omega))
  have e76 : M18 176 = M 176 := by
    rcases hx with ⟨_, _, e⟩ | ⟨_, _, _, e⟩
    · rw [e]; exact hO25 176 (by omega)
    · exact (e 176 (by omega)).trans (hO25 176 (by omega))
  refine z_callV mX4_recorded (vX4_recorded (σ := σ) (by omega) hR25b hI (by rw [e76]; exact h1) (by rw [e76]; exact h2)) rfl dX4_set_21 kX4_62 (by decide) rfl (by show _ ≤ 8; simp) (by decide) (zsh175) (by decide) rfl (fun v21 M21 q21 => ?_)
  obtain ⟨rfl, hm⟩ := q21
  try simp only [zpush]
  refine z_iret dX4_set_24 rfl ?_
  exact zActP.mk h2 hO25 hx (by omega) rfl hm

theorem vX4_pass {G : zG} {M : zM} {σ : zS} {t : Int} (ht : -2147483648 ≤ t ∧ t < 2147483648)  (hR : zRel M 0 σ) (hB : zB σ) (hX : zX σ) (h1 : 0 ≤ M 176 1 ∧ M 176 1 ≤ 4) (h2 : 0 ≤ M 176 2 ∧ M 176 2 < 4) : zCall G yX4_pass YX4_pass [.inr (some 175), .inl t] M (fun v M' => zActP M σ (sBarT σ t) ((if sBarT σ t = 0 then sTs t σ 537 - σ 537 else 0)) (sTs t σ) v M') := by
  refine zEnter (by decide +kernel) rfl (Nat.le_of_ble_eq_true rfl) ?_
  have hA := hB.1
  have hI := hA.1
  have hs9 := hI.1
  unfold zIs at hs9
  have h8 := hB.2.1
  have ht0 := hB.2.2
  refine z_aload_n dX4_pass_0 rfl ?_
  refine z_getR (b := 25) dX4_pass_1 fX4_16 (by decide) (zsh175) rfl rfl ?_
  refine z_aload_n dX4_pass_4 rfl ?_
  refine z_getR (b := 0) dX4_pass_5 fX4_12 (by decide) (zsh175) rfl rfl ?_
  refine z_callV mX1_copyFrom (vX1_copyFrom zP_25 zP_0 (by decide) hR hI) rfl dX4_pass_8 kX4_54 (by decide) rfl (by show _ ≤ 8; simp) (zP_r0 (zP_25)) (zm_sh_p0 (zP_25)) (by decide) rfl (fun v8 M8 q8 => ?_)
  obtain ⟨rfl, hR25, hO25⟩ := q8
  try simp only [zpush]
  have hR0 := hR.mv (N := M8) (fun a q1 q2 => hO25 a (by omega))
  refine z_aload_n dX4_pass_11 rfl ?_
  refine z_aload_n dX4_pass_12 rfl ?_
  refine z_getR (b := 0) dX4_pass_13 fX4_12 (by decide) (zsh175) rfl rfl ?_
  refine z_iload_n dX4_pass_16 rfl ?_
  refine z_callV mX1_letPass (vX1_letPass zP_0 hR0 (by omega) hA hX ht0) rfl dX4_pass_17 kX4_76 (by decide) rfl (by show _ ≤ 8; simp) (zP_r0 (zP_0)) (zm_sh_p0 (zP_0)) (by decide) rfl (fun v17 M17 q17 => ?_)
  have hex : ∃ zz : Int, v17 = some (.inl zz) ∧ ((sBarT σ t < 0 ∧ zz = sBarT σ t ∧ M17 = M8) ∨ (sBarT σ t = 0 ∧ zz = (if sBarT σ t = 0 then sTs t σ 537 - σ 537 else 0) ∧ zRel M17 0 (sTs t σ) ∧ zOff M8 M17 0)) := by
    rcases q17 with ⟨a1, a2, a3⟩ | ⟨a1, a2, a3⟩
    · exact ⟨_, a2, Or.inl ⟨a1, rfl, a3⟩⟩
    · exact ⟨_, a2, Or.inr ⟨a1, by rw [if_pos a1], a3⟩⟩
  obtain ⟨x17, rfl, hx⟩ := hex
  try simp only [zpush]
  have hbr := sBarT_r σ t
  have hfr : 0 ≤ (if sBarT σ t = 0 then sTs t σ 537 - σ 537 else 0) ∧ (if sBarT σ t = 0 then sTs t σ 537 - σ 537 else 0) ≤ 9 := by
    split
    · rename_i e
      have e2 := sBarT_0 e
      exact sTs_7 hA hX (by omega)
    · decide
  have hR25b : zRel M17 25 σ := by
    rcases hx with ⟨_, _, e⟩ | ⟨_, _, _, e⟩
    · rw [e]; exact hR25
    · exact hR25.mv (fun a q1 q2 => e a (by omega))
  have e76 : M17 176 = M 176 := by
    rcases hx with ⟨_, _, e⟩ | ⟨_, _, _, e⟩
    · rw [e]; exact hO25 176 (by omega)
    · exact (e 176 (by omega)).trans (hO25 176 (by omega))
  refine z_callV mX4_recorded (vX4_recorded (σ := σ) (by omega) hR25b hI (by rw [e76]; exact h1) (by rw [e76]; exact h2)) rfl dX4_pass_20 kX4_62 (by decide) rfl (by show _ ≤ 8; simp) (by decide) (zsh175) (by decide) rfl (fun v20 M20 q20 => ?_)
  obtain ⟨rfl, hm⟩ := q20
  try simp only [zpush]
  refine z_iret dX4_pass_23 rfl ?_
  exact zActP.mk h2 hO25 hx (by omega) rfl hm

theorem vX4_takeOff {G : zG} {M : zM} {σ : zS} {k : Int} (hk : -2147483648 ≤ k ∧ k < 2147483648)  (hR : zRel M 0 σ) (hB : zB σ) (hX : zX σ) (h1 : 0 ≤ M 176 1 ∧ M 176 1 ≤ 4) (h2 : 0 ≤ M 176 2 ∧ M 176 2 < 4) : zCall G yX4_takeOff YX4_takeOff [.inr (some 175), .inl k] M (fun v M' => zActP M σ (sBarO σ k) ((if sBarO σ k = 0 then σ (360 + 10 * k + 1) else 0)) (zu σ (360 + 10 * k + 3) 2) v M') := by
  refine zEnter (by decide +kernel) rfl (Nat.le_of_ble_eq_true rfl) ?_
  have hA := hB.1
  have hI := hA.1
  have hs9 := hI.1
  unfold zIs at hs9
  have h8 := hB.2.1
  have ht0 := hB.2.2
  refine z_aload_n dX4_takeOff_0 rfl ?_
  refine z_getR (b := 25) dX4_takeOff_1 fX4_16 (by decide) (zsh175) rfl rfl ?_
  refine z_aload_n dX4_takeOff_4 rfl ?_
  refine z_getR (b := 0) dX4_takeOff_5 fX4_12 (by decide) (zsh175) rfl rfl ?_
  refine z_callV mX1_copyFrom (vX1_copyFrom zP_25 zP_0 (by decide) hR hI) rfl dX4_takeOff_8 kX4_54 (by decide) rfl (by show _ ≤ 8; simp) (zP_r0 (zP_25)) (zm_sh_p0 (zP_25)) (by decide) rfl (fun v8 M8 q8 => ?_)
  obtain ⟨rfl, hR25, hO25⟩ := q8
  try simp only [zpush]
  have hR0 := hR.mv (N := M8) (fun a q1 q2 => hO25 a (by omega))
  refine z_aload_n dX4_takeOff_11 rfl ?_
  refine z_aload_n dX4_takeOff_12 rfl ?_
  refine z_getR (b := 0) dX4_takeOff_13 fX4_12 (by decide) (zsh175) rfl rfl ?_
  refine z_iload_n dX4_takeOff_16 rfl ?_
  refine z_callV mX1_removeSnail (vX1_removeSnail zP_0 hR0 (by omega) hI) rfl dX4_takeOff_17 kX4_66 (by decide) rfl (by show _ ≤ 8; simp) (zP_r0 (zP_0)) (zm_sh_p0 (zP_0)) (by decide) rfl (fun v17 M17 q17 => ?_)
  have hex : ∃ zz : Int, v17 = some (.inl zz) ∧ ((sBarO σ k < 0 ∧ zz = sBarO σ k ∧ M17 = M8) ∨ (sBarO σ k = 0 ∧ zz = (if sBarO σ k = 0 then σ (360 + 10 * k + 1) else 0) ∧ zRel M17 0 (zu σ (360 + 10 * k + 3) 2) ∧ zOff M8 M17 0)) := by
    rcases q17 with ⟨a1, a2, a3⟩ | ⟨a1, a4, a2, a3⟩ | ⟨a1, a4, a2, a3⟩
    · have eb : sBarO σ k = -1 := by unfold sBarO; rw [if_pos a1]
      exact ⟨_, a2, Or.inl ⟨by rw [eb]; decide, by rw [eb], a3⟩⟩
    · have eb : sBarO σ k = -4 := by unfold sBarO; rw [if_neg (fun q => q a1), if_pos a4]
      exact ⟨_, a2, Or.inl ⟨by rw [eb]; decide, by rw [eb], a3⟩⟩
    · have eb : sBarO σ k = 0 := by unfold sBarO; rw [if_neg (fun q => q a1), if_neg (fun q => q a4)]
      exact ⟨_, a2, Or.inr ⟨eb, by rw [if_pos eb], a3⟩⟩
  obtain ⟨x17, rfl, hx⟩ := hex
  try simp only [zpush]
  have hbr := sBarO_r σ k
  have hfr : 0 ≤ (if sBarO σ k = 0 then σ (360 + 10 * k + 1) else 0) ∧ (if sBarO σ k = 0 then σ (360 + 10 * k + 1) else 0) ≤ 19 := by
    split
    · rename_i e
      have hk : 0 ≤ k ∧ k < σ 535 := by
        unfold sBarO at e
        by_cases q : 0 ≤ k ∧ k < σ 535
        · exact q
        · rw [if_pos q] at e; exact absurd e (by decide)
      have hk9 := hI.2.2 k (by omega) (by omega)
      unfold zIk at hk9
      omega
    · decide
  have hR25b : zRel M17 25 σ := by
    rcases hx with ⟨_, _, e⟩ | ⟨_, _, _, e⟩
    · rw [e]; exact hR25
    · exact hR25.mv (fun a q1 q2 => e a (by omega))
  have e76 : M17 176 = M 176 := by
    rcases hx with ⟨_, _, e⟩ | ⟨_, _, _, e⟩
    · rw [e]; exact hO25 176 (by omega)
    · exact (e 176 (by omega)).trans (hO25 176 (by omega))
  refine z_callV mX4_recorded (vX4_recorded (σ := σ) (by omega) hR25b hI (by rw [e76]; exact h1) (by rw [e76]; exact h2)) rfl dX4_takeOff_20 kX4_62 (by decide) rfl (by show _ ≤ 8; simp) (by decide) (zsh175) (by decide) rfl (fun v20 M20 q20 => ?_)
  obtain ⟨rfl, hm⟩ := q20
  try simp only [zpush]
  refine z_iret dX4_takeOff_23 rfl ?_
  exact zActP.mk h2 hO25 hx (by omega) rfl hm

theorem vX4_type {G : zG} {M : zM} {ch : Int} (hc : 0 ≤ ch ∧ ch < 65536) (hl : 0 ≤ M 178 1 ∧ M 178 1 ≤ 60) : zCall G yX4_type YX4_type [.inr (some 175), .inl ch] M (fun v M' => (M 178 1 = 60 ∧ v = some (.inl (-3)) ∧ M' = M) ∨ (M 178 1 ≠ 60 ∧ v = some (.inl (M 178 1 + 1)) ∧ M' = zm_up (zm_up M 179 (M 178 1) ch) 178 1 (M 178 1 + 1))) := by
  refine zEnter (by decide +kernel) rfl (Nat.le_of_ble_eq_true rfl) ?_
  refine z_aload_n dX4_type_0 rfl ?_
  refine z_getR (b := 178) dX4_type_1 fX4_36 (by decide) (zsh175) rfl rfl ?_
  refine z_iload_n dX4_type_4 rfl ?_
  refine z_callV mX2_append (vX2_append hc hl) rfl dX4_type_5 kX4_82 (by decide) rfl (by show _ ≤ 8; simp) (by decide) (zsh178) (by decide) rfl (fun v5 M5 q5 => ?_)
  have hex : ∃ x : Int, v5 = some (.inl x) := by
    rcases q5 with ⟨_, e, _⟩ | ⟨_, e, _⟩ <;> exact ⟨_, e⟩
  obtain ⟨x5, rfl⟩ := hex
  try simp only [zpush]
  refine z_iret dX4_type_8 rfl ?_
  exact q5

theorem vX4_clearText {G : zG} {M : zM} : zCall G yX4_clearText YX4_clearText [.inr (some 175)] M (fun v M' => v = some (.inl (M 178 1)) ∧ M' = zm_up M 178 1 0) := by
  refine zEnter (by decide +kernel) rfl (Nat.le_of_ble_eq_true rfl) ?_
  refine z_aload_n dX4_clearText_0 rfl ?_
  refine z_getR (b := 178) dX4_clearText_1 fX4_36 (by decide) (zsh175) rfl rfl ?_
  refine z_callV mX2_empty vX2_empty rfl dX4_clearText_4 kX4_86 (by decide) rfl (by show _ ≤ 8; simp) (by decide) (zsh178) (by decide) rfl (fun v4 M4 q4 => ?_)
  obtain ⟨rfl, hm⟩ := q4
  try simp only [zpush]
  refine z_iret dX4_clearText_7 rfl ?_
  exact ⟨rfl, hm⟩

theorem vX4_stopped {G : zG} {M : zM} {w : Int} (hw : -2147483648 ≤ w ∧ w < 2147483648) : zCall G yX4_stopped YX4_stopped [.inr (some 175), .inl w] M (fun v M' => M = M' ∧ v = some (.inl (if w = 0 then M 175 7 else if w = 1 then M 175 8 else -2))) := by
  refine zEnter (by decide +kernel) rfl (Nat.le_of_ble_eq_true rfl) ?_
  refine z_iload_n dX4_stopped_0 rfl ?_
  rcases (show w = 0 ∨ w = 1 ∨ (¬ w = 0 ∧ ¬ w = 1) by omega) with h1 | h1 | h1
  · refine z_look (off := 27) (tgt := 28) dX4_stopped_1 (by decide) (by omega) (by rw [h1]; rfl) (by decide) ?_
    refine z_aload_n dX4_stopped_28 rfl ?_
    refine z_getI (kI := 7) dX4_stopped_29 fX4_47 (by decide) (zsh175) rfl rfl ?_
    refine z_iret dX4_stopped_32 rfl ?_
    refine ⟨rfl, ?_⟩
    congr 2
    repeat' split
    all_goals first | rfl | omega
  · refine z_look (off := 32) (tgt := 33) dX4_stopped_1 (by decide) (by omega) (by rw [h1]; rfl) (by decide) ?_
    refine z_aload_n dX4_stopped_33 rfl ?_
    refine z_getI (kI := 8) dX4_stopped_34 fX4_51 (by decide) (zsh175) rfl rfl ?_
    refine z_iret dX4_stopped_37 rfl ?_
    refine ⟨rfl, ?_⟩
    congr 2
    repeat' split
    all_goals first | rfl | omega
  · refine z_look (off := 37) (tgt := 38) dX4_stopped_1 (by decide) (by omega) (by show (if _ = _ then _ else if _ = _ then _ else _) = _; rw [if_neg (by omega), if_neg (by omega)]; rfl) (by decide) ?_
    refine z_bipush dX4_stopped_38 (by decide) ?_
    refine z_iret dX4_stopped_40 rfl ?_
    refine ⟨rfl, ?_⟩
    congr 2
    repeat' split
    all_goals first | rfl | omega

theorem vX4_undo {G : zG} {M : zM}    {τ : zS} (hT : M 176 1 ≠ 0 → zRel M (75 + 25 * ((M 176 2 + 3) % 4)) τ ∧ zI τ) (h1 : 0 ≤ M 176 1 ∧ M 176 1 ≤ 4) (h2 : 0 ≤ M 176 2 ∧ M 176 2 < 4) : zCall G yX4_undo YX4_undo [.inr (some 175)] M (fun v M' => (M 176 1 = 0 ∧ v = some (.inl (-5)) ∧ M' = M) ∨ (M 176 1 ≠ 0 ∧ v = some (.inl (M 176 1 - 1)) ∧ zRel M' 0 τ ∧ (∀ a : Int, a ≠ 176 → 25 ≤ a → M' a = M a) ∧ M' 176 1 = M 176 1 - 1 ∧ M' 176 2 = (M 176 2 + 3) % 4)) := by
  refine zEnter (by decide +kernel) rfl (Nat.le_of_ble_eq_true rfl) ?_
  refine z_aload_n dX4_undo_0 rfl ?_
  refine z_getR (b := 176) dX4_undo_1 fX4_29 (by decide) (zsh175) rfl rfl ?_
  refine z_aload_n dX4_undo_4 rfl ?_
  refine z_getR (b := 0) dX4_undo_5 fX4_12 (by decide) (zsh175) rfl rfl ?_
  refine z_callV mX0_giveBack (vX0_giveBack hT h1 h2) rfl dX4_undo_8 kX4_112 (by decide) rfl (by show _ ≤ 8; simp) (by decide) (zsh176) (by decide) rfl (fun v8 M8 q8 => ?_)
  have hex : ∃ x : Int, v8 = some (.inl x) := by
    rcases q8 with ⟨_, e, _⟩ | ⟨_, e, _⟩ <;> exact ⟨_, e⟩
  obtain ⟨x8, rfl⟩ := hex
  try simp only [zpush]
  refine z_iret dX4_undo_11 rfl ?_
  exact q8

theorem vX4_keep {G : zG} {M : zM} {σ : zS}   (hR : zRel M 0 σ) (hI : zI σ) : zCall G yX4_keep YX4_keep [.inr (some 175)] M (fun v M' => v = some (.inl (σ 536)) ∧ zRel M' 50 σ ∧ (∀ a : Int, (a < 50 ∨ 75 ≤ a) → a ≠ 175 → M' a = M a) ∧ M' 175 3 = 1 ∧ ∀ j : Int, j ≠ 3 → M' 175 j = M 175 j) := by
  refine zEnter (by decide +kernel) rfl (Nat.le_of_ble_eq_true rfl) ?_
  refine z_aload_n dX4_keep_0 rfl ?_
  refine z_getR (b := 50) dX4_keep_1 fX4_19 (by decide) (zsh175) rfl rfl ?_
  refine z_aload_n dX4_keep_4 rfl ?_
  refine z_getR (b := 0) dX4_keep_5 fX4_12 (by decide) (zsh175) rfl rfl ?_
  refine z_callV mX1_copyFrom (vX1_copyFrom zP_50 zP_0 (by decide) hR hI) rfl dX4_keep_8 kX4_54 (by decide) rfl (by show _ ≤ 8; simp) (zP_r0 (zP_50)) (zm_sh_p0 (zP_50)) (by decide) rfl (fun v8 M8 q8 => ?_)
  obtain ⟨rfl, hR50, hO50⟩ := q8
  try simp only [zpush]
  refine z_aload_n dX4_keep_11 rfl ?_
  refine z_iconst dX4_keep_12 ?_
  refine z_nput (kI := 3) dX4_keep_13 fX4_22 rfl (Or.inr ⟨rfl, by omega⟩) (by decide) (zsh175) rfl rfl (fun N13 hN13 => ?_)
  refine z_aload_n dX4_keep_16 rfl ?_
  refine z_getR (b := 0) dX4_keep_17 fX4_12 (by decide) (zsh175) rfl rfl ?_
  refine z_getI (kI := 16) dX4_keep_20 fX4_116 (zP_r0 (zP_0)) (zm_sh_p0 (zP_0)) rfl rfl ?_
  refine z_iret dX4_keep_23 rfl ?_
  refine ⟨?_, hR50.mv (fun a q1 q2 => by rw [hN13, zm_up_off (by omega)]), fun a q1 q2 => ?_, ?_, fun j q => ?_⟩
  · rw [hN13, zm_up_off (by decide), hO50 0 (by omega), hR.2.2.2.2.2.2]
  · rw [hN13, zm_up_off q2]
    exact hO50 a q1
  · rw [hN13, zm_up_at]
  · rw [hN13, zm_up_ne q, hO50 175 (by omega)]

theorem vX4_restore {G : zG} {M : zM} {σ : zS}   {τ : zS} (h3 : M 175 3 = 0 ∨ M 175 3 = 1) (hR : zRel M 0 σ) (hI : zI σ) (hT : M 175 3 ≠ 0 → zRel M 50 τ ∧ zI τ ∧ (0 ≤ τ 536 ∧ τ 536 ≤ 99999)) (h1 : 0 ≤ M 176 1 ∧ M 176 1 ≤ 4) (h2 : 0 ≤ M 176 2 ∧ M 176 2 < 4) : zCall G yX4_restore YX4_restore [.inr (some 175)] M (fun v M' => (M 175 3 = 0 ∧ v = some (.inl (-5)) ∧ M' = M) ∨ (M 175 3 ≠ 0 ∧ v = some (.inl (τ 536)) ∧ zDid M σ τ M')) := by
  refine zEnter (by decide +kernel) rfl (Nat.le_of_ble_eq_true rfl) ?_
  refine z_aload_n dX4_restore_0 rfl ?_
  refine z_getI (kI := 3) dX4_restore_1 fX4_22 (by decide) (zsh175) rfl rfl ?_
  refine z_if_ne (tgt := 10) dX4_restore_4 (by decide) (by omega) (fun c4 => ?_) (fun c4 => ?_)
  · obtain ⟨hT0, hIT, hTt⟩ := hT (by omega)
    refine z_aload_n dX4_restore_10 rfl ?_
    refine z_getR (b := 25) dX4_restore_11 fX4_16 (by decide) (zsh175) rfl rfl ?_
    refine z_aload_n dX4_restore_14 rfl ?_
    refine z_getR (b := 0) dX4_restore_15 fX4_12 (by decide) (zsh175) rfl rfl ?_
    refine z_callV mX1_copyFrom (vX1_copyFrom zP_25 zP_0 (by decide) hR hI) rfl dX4_restore_18 kX4_54 (by decide) rfl (by show _ ≤ 8; simp) (zP_r0 (zP_25)) (zm_sh_p0 (zP_25)) (by decide) rfl (fun v18 M18 q18 => ?_)
    obtain ⟨rfl, hR25, hO25⟩ := q18
    try simp only [zpush]
    refine z_aload_n dX4_restore_21 rfl ?_
    refine z_getR (b := 0) dX4_restore_22 fX4_12 (by decide) (zsh175) rfl rfl ?_
    refine z_aload_n dX4_restore_25 rfl ?_
    refine z_getR (b := 50) dX4_restore_26 fX4_19 (by decide) (zsh175) rfl rfl ?_
    refine z_callV mX1_copyFrom (vX1_copyFrom zP_0 zP_50 (by decide) (hT0.mv (fun a q1 q2 => hO25 a (by omega))) hIT) rfl dX4_restore_29 kX4_54 (by decide) rfl (by show _ ≤ 8; simp) (zP_r0 (zP_0)) (zm_sh_p0 (zP_0)) (by decide) rfl (fun v29 M29 q29 => ?_)
    obtain ⟨rfl, hR0, hO0⟩ := q29
    try simp only [zpush]
    have e76 : M29 176 = M 176 := (hO0 176 (by omega)).trans (hO25 176 (by omega))
    refine z_aload_n dX4_restore_32 rfl ?_
    refine z_aload_n dX4_restore_33 rfl ?_
    refine z_getR (b := 0) dX4_restore_34 fX4_12 (by decide) (zsh175) rfl rfl ?_
    refine z_getI (kI := 16) dX4_restore_37 fX4_116 (zP_r0 (zP_0)) (zm_sh_p0 (zP_0)) rfl rfl ?_
    rw [hR0.2.2.2.2.2.2]
    refine z_callV mX4_recorded (vX4_recorded (σ := σ) (by omega) (hR25.mv (fun a q1 q2 => hO0 a (by omega))) hI (by rw [e76]; exact h1) (by rw [e76]; exact h2)) rfl dX4_restore_40 kX4_62 (by decide) rfl (by show _ ≤ 8; simp) (by decide) (zsh175) (by decide) rfl (fun v40 M40 q40 => ?_)
    obtain ⟨rfl, hm⟩ := q40
    try simp only [zpush]
    refine z_iret dX4_restore_43 rfl ?_
    have hz := zActP.mk (b := 0) (r := τ 536) (x := τ 536) (v := some (.inl (τ 536))) h2 hO25 (Or.inr ⟨rfl, rfl, hR0, hO0⟩) hTt.1 rfl hm
    rcases hz with ⟨h, _⟩ | ⟨_, _, hz⟩
    · exact absurd h (by decide)
    · exact Or.inr ⟨by omega, rfl, hz⟩
  · refine z_bipush dX4_restore_7 (by decide) ?_
    refine z_iret dX4_restore_9 rfl ?_
    exact Or.inl ⟨by omega, rfl, rfl⟩

