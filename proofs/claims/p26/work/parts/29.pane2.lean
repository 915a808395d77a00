theorem vX4_sum {G : zG} {M : zM} {a : Int} {m : Nat} (ha : 0 ≤ a ∧ a < 187) (hs : zm_sh a = .inl (0, m)) (hm : m ≤ 1000) : zCall G yX4_sum YX4_sum [.inr (some a)] M (fun v M' => M = M' ∧ v = some (.inl (zfor (fun i x => x + M a i) 0 m 0))) := by
  refine zEnter (by decide +kernel) rfl (Nat.le_of_ble_eq_true rfl) ?_
  refine z_iconst dX4_sum_0 ?_
  refine z_istore_n dX4_sum_1 (by decide) ?_
  refine z_aload_n dX4_sum_2 rfl ?_
  refine z_astore_n dX4_sum_3 (by decide) ?_
  refine z_aload_n dX4_sum_4 rfl ?_
  refine z_alen dX4_sum_5 ha hs (by decide) ?_
  refine z_istore_n dX4_sum_6 (by decide) ?_
  refine z_iconst dX4_sum_7 ?_
  refine z_istore dX4_sum_8 (by decide) ?_
  have L : ∀ (n : Nat) (i : Int) (x : Int), (0 ≤ i ∧ i ≤ m) → (i + n = m + 1) → (zfor (fun i x => x + M a i) i m x = zfor (fun i x => x + M a i) 0 m 0) → zW G YX4_sum (fun v M' => M = M' ∧ v = some (.inl (zfor (fun i x => x + M a i) 0 m 0))) 10 [(4, .inl i), (3, .inl (m : Int)), (2, .inr (some a)), (1, .inl x)] [] M := by
    intro n
    induction n with
    | zero => intro i x hi hin he; exfalso; omega
    | succ n ih =>
      intro i x hi hin he
      refine z_iload dX4_sum_10 rfl ?_
      refine z_iload_n dX4_sum_12 rfl ?_
      refine z_icmp_ge (tgt := 33) dX4_sum_13 (by decide) (by omega) (by omega) (fun c13 => ?_) (fun c13 => ?_)
      · refine z_iload_n dX4_sum_33 rfl ?_
        refine z_iret dX4_sum_34 rfl ?_
        rw [zfor_end (by omega)] at he
        exact ⟨rfl, by rw [he]⟩
      · refine z_aload_n dX4_sum_16 rfl ?_
        refine z_iload dX4_sum_17 rfl ?_
        refine z_iaload dX4_sum_19 ha hs ⟨hi.1, c13⟩ (by omega) ?_
        refine z_istore dX4_sum_20 (by decide) ?_
        refine z_iload_n dX4_sum_22 rfl ?_
        refine z_iload dX4_sum_23 rfl ?_
        refine z_iadd dX4_sum_25 ?_
        refine z_istore_n dX4_sum_26 (by decide) ?_
        refine z_iinc dX4_sum_27 rfl (by decide) ?_
        refine z_goto (tgt := 10) dX4_sum_30 (by decide) ?_
        rw [zfor_step (by omega)] at he
        exact zsub' (ih (i + 1) _ (by omega) (by omega) he) ⟨rfl, rfl, rfl, rfl, trivial⟩
  exact zsub' (L (m + 1) 0 0 (by omega) (by omega) rfl) ⟨rfl, rfl, rfl, rfl, trivial⟩

theorem vX1_howManyAre {G : zG} {M : zM} {σ : zS} {p w : Int} (hp : zP p) (hR : zRel M p σ) (hw : 0 ≤ w ∧ w ≤ 2) (hI : zI σ) : zCall G yX1_howManyAre YX1_howManyAre [.inr (some p), .inl w] M (fun v M' => M = M' ∧ v = some (.inl (sIn σ w))) := by
  refine zEnter (by decide +kernel) rfl (Nat.le_of_ble_eq_true rfl) ?_
  have hs9 := hI.1
  unfold zIs at hs9
  have hR5 := hR.2.2.2.2.2.1
  have hR6 := hR.2.2.2.2.2.2
  have hR4 := hR.2.2.2.2.1
  refine z_iconst dX1_howManyAre_0 ?_
  refine z_istore_n dX1_howManyAre_1 (by decide) ?_
  refine z_iconst dX1_howManyAre_2 ?_
  refine z_istore_n dX1_howManyAre_3 (by decide) ?_
  have L : ∀ (n : Nat) (c : Int) (x : Int), (0 ≤ c ∧ c ≤ σ 535) → (c + n = σ 535 + 1) → (0 ≤ x ∧ x ≤ c) → (zfor (fun k n => n + if σ (360 + 10 * k + 3) = w then 1 else 0) c (σ 535) x = sIn σ w) → zW G YX1_howManyAre (fun v M' => M = M' ∧ v = some (.inl (sIn σ w))) 4 [(3, .inl c), (2, .inl x), (0, .inr (some p)), (1, .inl w)] [] M := by
    intro n
    induction n with
    | zero => intro c x hc hcn hx he; exfalso; omega
    | succ n ih =>
      intro c x hc hcn hx he
      refine z_iload_n dX1_howManyAre_4 rfl ?_
      refine z_aload_n dX1_howManyAre_5 rfl ?_
      refine z_getI (kI := 15) dX1_howManyAre_6 fX1_67 (zP_r0 hp) (zm_sh_p0 hp) rfl rfl ?_
      refine z_icmp_ge (tgt := 31) dX1_howManyAre_9 (by decide) (by omega) (by omega) (fun c9 => ?_) (fun c9 => ?_)
      · rw [zfor_end (by omega)] at he
        refine z_iload_n dX1_howManyAre_31 rfl ?_
        refine z_iret dX1_howManyAre_32 rfl ?_
        exact ⟨rfl, by rw [he]⟩
      · have hk9 := hI.2.2 c (by omega) (by omega)
        unfold zIk at hk9
        have hkR := hR.2.1 c (by omega) (by omega)
        unfold zRk at hkR
        refine z_aload_n dX1_howManyAre_12 rfl ?_
        refine z_getR (b := (p + 7)) dX1_howManyAre_13 fX1_30 (zP_r0 hp) (zm_sh_p0 hp) rfl rfl ?_
        refine z_iload_n dX1_howManyAre_16 rfl ?_
        refine z_iaload dX1_howManyAre_17 (zP_r hp 7 (by decide)) (zm_sh_p hp 7 (by decide)) (by omega) (by decide) ?_
        refine z_iload_n dX1_howManyAre_18 rfl ?_
        refine z_icmp_ne (tgt := 25) dX1_howManyAre_19 (by decide) (by omega) (by omega) (fun c19 => ?_) (fun c19 => ?_)
        · refine z_iinc dX1_howManyAre_25 rfl (by decide) ?_
          refine z_goto (tgt := 4) dX1_howManyAre_28 (by decide) ?_
          rw [zfor_step (by omega)] at he
          first | (rw [if_pos (by omega)] at he; exact zsub' (ih (c + 1) _ (by omega) (by omega) (by omega) he) ⟨rfl, rfl, rfl, rfl, trivial⟩) | (rw [if_neg (by omega), Int.add_zero] at he; exact zsub' (ih (c + 1) _ (by omega) (by omega) (by omega) he) ⟨rfl, rfl, rfl, rfl, trivial⟩)
        · refine z_iinc dX1_howManyAre_22 rfl (by decide) ?_
          refine z_iinc dX1_howManyAre_25 rfl (by decide) ?_
          refine z_goto (tgt := 4) dX1_howManyAre_28 (by decide) ?_
          rw [zfor_step (by omega)] at he
          first | (rw [if_pos (by omega)] at he; exact zsub' (ih (c + 1) _ (by omega) (by omega) (by omega) he) ⟨rfl, rfl, rfl, rfl, trivial⟩) | (rw [if_neg (by omega), Int.add_zero] at he; exact zsub' (ih (c + 1) _ (by omega) (by omega) (by omega) he) ⟨rfl, rfl, rfl, rfl, trivial⟩)
  exact zsub' (L (σ 535 + 1).toNat 0 0 (by omega) (by omega) (by omega) rfl) ⟨rfl, rfl, rfl, rfl, trivial⟩

theorem vX1_howManyTrails {G : zG} {M : zM} {σ : zS} {p : Int} (hp : zP p) (hR : zRel M p σ) (hI : zI σ) : zCall G yX1_howManyTrails YX1_howManyTrails [.inr (some p)] M (fun v M' => M = M' ∧ v = some (.inl (sTrl σ))) := by
  refine zEnter (by decide +kernel) rfl (Nat.le_of_ble_eq_true rfl) ?_
  have hs9 := hI.1
  unfold zIs at hs9
  have hR5 := hR.2.2.2.2.2.1
  have hR6 := hR.2.2.2.2.2.2
  have hR4 := hR.2.2.2.2.1
  refine z_iconst dX1_howManyTrails_0 ?_
  refine z_istore_n dX1_howManyTrails_1 (by decide) ?_
  refine z_iconst dX1_howManyTrails_2 ?_
  refine z_istore_n dX1_howManyTrails_3 (by decide) ?_
  have L : ∀ (n : Nat) (c : Int) (x : Int), (0 ≤ c ∧ c ≤ (120 : Int)) → (c + n = (120 : Int) + 1) → (0 ≤ x ∧ x ≤ c) → (zfor (fun c n => n + if σ (120 + c) > 0 then 1 else 0) c ((120 : Int)) x = sTrl σ) → zW G YX1_howManyTrails (fun v M' => M = M' ∧ v = some (.inl (sTrl σ))) 4 [(2, .inl c), (1, .inl x), (0, .inr (some p))] [] M := by
    intro n
    induction n with
    | zero => intro c x hc hcn hx he; exfalso; omega
    | succ n ih =>
      intro c x hc hcn hx he
      refine z_iload_n dX1_howManyTrails_4 rfl ?_
      refine z_bipush dX1_howManyTrails_5 (by decide) ?_
      refine z_icmp_ge (tgt := 30) dX1_howManyTrails_7 (by decide) (by omega) (by omega) (fun c7 => ?_) (fun c7 => ?_)
      · rw [zfor_end (by omega)] at he
        refine z_iload_n dX1_howManyTrails_30 rfl ?_
        refine z_iret dX1_howManyTrails_31 rfl ?_
        exact ⟨rfl, by rw [he]⟩
      · have hc9 := hI.2.1 c (by omega) (by omega)
        unfold zIc at hc9
        have hcR := hR.1 c (by omega) (by omega)
        unfold zRc at hcR
        refine z_aload_n dX1_howManyTrails_10 rfl ?_
        refine z_getR (b := (p + 2)) dX1_howManyTrails_11 fX1_15 (zP_r0 hp) (zm_sh_p0 hp) rfl rfl ?_
        refine z_iload_n dX1_howManyTrails_14 rfl ?_
        refine z_iaload dX1_howManyTrails_15 (zP_r hp 2 (by decide)) (zm_sh_p hp 2 (by decide)) (by omega) (by decide) ?_
        refine z_bipush dX1_howManyTrails_16 (by decide) ?_
        refine z_icmp_eq (tgt := 24) dX1_howManyTrails_18 (by decide) (by omega) (by omega) (fun c18 => ?_) (fun c18 => ?_)
        · refine z_iinc dX1_howManyTrails_24 rfl (by decide) ?_
          refine z_goto (tgt := 4) dX1_howManyTrails_27 (by decide) ?_
          rw [zfor_step (by omega)] at he
          first | (rw [if_pos (by omega)] at he; exact zsub' (ih (c + 1) _ (by omega) (by omega) (by omega) he) ⟨rfl, rfl, rfl, trivial⟩) | (rw [if_neg (by omega), Int.add_zero] at he; exact zsub' (ih (c + 1) _ (by omega) (by omega) (by omega) he) ⟨rfl, rfl, rfl, trivial⟩)
        · refine z_iinc dX1_howManyTrails_21 rfl (by decide) ?_
          refine z_iinc dX1_howManyTrails_24 rfl (by decide) ?_
          refine z_goto (tgt := 4) dX1_howManyTrails_27 (by decide) ?_
          rw [zfor_step (by omega)] at he
          first | (rw [if_pos (by omega)] at he; exact zsub' (ih (c + 1) _ (by omega) (by omega) (by omega) he) ⟨rfl, rfl, rfl, trivial⟩) | (rw [if_neg (by omega), Int.add_zero] at he; exact zsub' (ih (c + 1) _ (by omega) (by omega) (by omega) he) ⟨rfl, rfl, rfl, trivial⟩)
  exact zsub' (L ((120 : Int) + 1).toNat 0 0 (by omega) (by omega) (by omega) rfl) ⟨rfl, rfl, rfl, trivial⟩

theorem vX1_isAhead {G : zG} {M : zM} {σ : zS} {p k f : Int} (hp : zP p) (hR : zRel M p σ) (hk : 0 ≤ k ∧ k < σ 535) (hf : 0 ≤ f ∧ f < σ 535) (hI : zI σ) : zCall G yX1_isAhead YX1_isAhead [.inr (some p), .inl k, .inl f] M (fun v M' => M = M' ∧ ∃ zb : Int, v = some (.inl zb) ∧ ((zb = 1 ∧ (σ (360 + 10 * k + 1) > σ (360 + 10 * f + 1) ∨ (σ (360 + 10 * k + 1) = σ (360 + 10 * f + 1) ∧ σ (360 + 10 * k + 2) > σ (360 + 10 * f + 2)))) ∨ (zb = 0 ∧ ¬ (σ (360 + 10 * k + 1) > σ (360 + 10 * f + 1) ∨ (σ (360 + 10 * k + 1) = σ (360 + 10 * f + 1) ∧ σ (360 + 10 * k + 2) > σ (360 + 10 * f + 2)))))) := by
  refine zEnter (by decide +kernel) rfl (Nat.le_of_ble_eq_true rfl) ?_
  have hs9 := hI.1
  unfold zIs at hs9
  have hR5 := hR.2.2.2.2.2.1
  have hR6 := hR.2.2.2.2.2.2
  have hR4 := hR.2.2.2.2.1
  have hk9 := hI.2.2 k (by omega) (by omega)
  unfold zIk at hk9
  have hkR := hR.2.1 k (by omega) (by omega)
  unfold zRk at hkR
  have hf9 := hI.2.2 f (by omega) (by omega)
  unfold zIk at hf9
  have hfR := hR.2.1 f (by omega) (by omega)
  unfold zRk at hfR
  refine z_aload_n dX1_isAhead_0 rfl ?_
  refine z_getR (b := (p + 5)) dX1_isAhead_1 fX1_24 (zP_r0 hp) (zm_sh_p0 hp) rfl rfl ?_
  refine z_iload_n dX1_isAhead_4 rfl ?_
  refine z_iaload dX1_isAhead_5 (zP_r hp 5 (by decide)) (zm_sh_p hp 5 (by decide)) (by omega) (by decide) ?_
  refine z_aload_n dX1_isAhead_6 rfl ?_
  refine z_getR (b := (p + 5)) dX1_isAhead_7 fX1_24 (zP_r0 hp) (zm_sh_p0 hp) rfl rfl ?_
  refine z_iload_n dX1_isAhead_10 rfl ?_
  refine z_iaload dX1_isAhead_11 (zP_r hp 5 (by decide)) (zm_sh_p hp 5 (by decide)) (by omega) (by decide) ?_
  refine z_icmp_eq (tgt := 36) dX1_isAhead_12 (by decide) (by omega) (by omega) (fun c12 => ?_) (fun c12 => ?_)
  · refine z_aload_n dX1_isAhead_36 rfl ?_
    refine z_getR (b := (p + 6)) dX1_isAhead_37 fX1_27 (zP_r0 hp) (zm_sh_p0 hp) rfl rfl ?_
    refine z_iload_n dX1_isAhead_40 rfl ?_
    refine z_iaload dX1_isAhead_41 (zP_r hp 6 (by decide)) (zm_sh_p hp 6 (by decide)) (by omega) (by decide) ?_
    refine z_aload_n dX1_isAhead_42 rfl ?_
    refine z_getR (b := (p + 6)) dX1_isAhead_43 fX1_27 (zP_r0 hp) (zm_sh_p0 hp) rfl rfl ?_
    refine z_iload_n dX1_isAhead_46 rfl ?_
    refine z_iaload dX1_isAhead_47 (zP_r hp 6 (by decide)) (zm_sh_p hp 6 (by decide)) (by omega) (by decide) ?_
    refine z_icmp_le (tgt := 55) dX1_isAhead_48 (by decide) (by omega) (by omega) (fun c48 => ?_) (fun c48 => ?_)
    · refine z_iconst dX1_isAhead_55 ?_
      refine z_zret dX1_isAhead_56 rfl (by omega) ?_
      exact ⟨rfl, _, rfl, by omega⟩
    · refine z_iconst dX1_isAhead_51 ?_
      refine z_goto (tgt := 56) dX1_isAhead_52 (by decide) ?_
      refine z_zret dX1_isAhead_56 rfl (by omega) ?_
      exact ⟨rfl, _, rfl, by omega⟩
  · refine z_aload_n dX1_isAhead_15 rfl ?_
    refine z_getR (b := (p + 5)) dX1_isAhead_16 fX1_24 (zP_r0 hp) (zm_sh_p0 hp) rfl rfl ?_
    refine z_iload_n dX1_isAhead_19 rfl ?_
    refine z_iaload dX1_isAhead_20 (zP_r hp 5 (by decide)) (zm_sh_p hp 5 (by decide)) (by omega) (by decide) ?_
    refine z_aload_n dX1_isAhead_21 rfl ?_
    refine z_getR (b := (p + 5)) dX1_isAhead_22 fX1_24 (zP_r0 hp) (zm_sh_p0 hp) rfl rfl ?_
    refine z_iload_n dX1_isAhead_25 rfl ?_
    refine z_iaload dX1_isAhead_26 (zP_r hp 5 (by decide)) (zm_sh_p hp 5 (by decide)) (by omega) (by decide) ?_
    refine z_icmp_le (tgt := 34) dX1_isAhead_27 (by decide) (by omega) (by omega) (fun c27 => ?_) (fun c27 => ?_)
    · refine z_iconst dX1_isAhead_34 ?_
      refine z_zret dX1_isAhead_35 rfl (by omega) ?_
      exact ⟨rfl, _, rfl, by omega⟩
    · refine z_iconst dX1_isAhead_30 ?_
      refine z_goto (tgt := 35) dX1_isAhead_31 (by decide) ?_
      refine z_zret dX1_isAhead_35 rfl (by omega) ?_
      exact ⟨rfl, _, rfl, by omega⟩

theorem vX1_findLeader {G : zG} {M : zM} {σ : zS} {p : Int} (hp : zP p) (hR : zRel M p σ) (hI : zI σ) : zCall G yX1_findLeader YX1_findLeader [.inr (some p)] M (fun v M' => M = M' ∧ v = some (.inl (sLead σ))) := by
  refine zEnter (by decide +kernel) rfl (Nat.le_of_ble_eq_true rfl) ?_
  have hs9 := hI.1
  unfold zIs at hs9
  have hR5 := hR.2.2.2.2.2.1
  have hR6 := hR.2.2.2.2.2.2
  have hR4 := hR.2.2.2.2.1
  refine z_bipush dX1_findLeader_0 (by decide) ?_
  refine z_istore_n dX1_findLeader_2 (by decide) ?_
  refine z_iconst dX1_findLeader_3 ?_
  refine z_istore_n dX1_findLeader_4 (by decide) ?_
  have L : ∀ (n : Nat) (k : Int) (f : Int), (0 ≤ k ∧ k ≤ σ 535) → (k + n = σ 535 + 1) → (f = -5 ∨ (0 ≤ f ∧ f < σ 535)) → (zfor (sLeadF σ) k (σ 535) f = sLead σ) → zW G YX1_findLeader (fun v M' => M = M' ∧ v = some (.inl (sLead σ))) 5 [(2, .inl k), (1, .inl f), (0, .inr (some p))] [] M := by
    intro n
    induction n with
    | zero => intro k f hc hcn hf he; exfalso; omega
    | succ n ih =>
      intro k f hc hcn hf he
      refine z_iload_n dX1_findLeader_5 rfl ?_
      refine z_aload_n dX1_findLeader_6 rfl ?_
      refine z_getI (kI := 15) dX1_findLeader_7 fX1_67 (zP_r0 hp) (zm_sh_p0 hp) rfl rfl ?_
      refine z_icmp_ge (tgt := 44) dX1_findLeader_10 (by decide) (by omega) (by omega) (fun c10 => ?_) (fun c10 => ?_)
      · rw [zfor_end (by omega)] at he
        refine z_iload_n dX1_findLeader_44 rfl ?_
        refine z_iret dX1_findLeader_45 rfl ?_
        exact ⟨rfl, by rw [he]⟩
      · refine z_aload_n dX1_findLeader_13 rfl ?_
        refine z_iload_n dX1_findLeader_14 rfl ?_
        refine z_callV mX1_creeps (vX1_creeps hp hR (by omega) hI) rfl dX1_findLeader_15 kX1_95 (by decide) rfl (by show _ ≤ 8; simp) (zP_r0 hp) (zm_sh_p0 hp) (by decide) rfl (fun v15 M15 q15 => ?_)
        obtain ⟨rfl, b15, rfl, h15⟩ := q15
        try simp only [zpush]
        refine z_if_eq (tgt := 38) dX1_findLeader_18 (by decide) (by omega) (fun c18 => ?_) (fun c18 => ?_)
        · refine z_iinc dX1_findLeader_38 rfl (by decide) ?_
          refine z_goto (tgt := 5) dX1_findLeader_41 (by decide) ?_
          rw [zfor_step (by omega)] at he
          first
            | (rw [show sLeadF σ k f = k from by unfold sLeadF; rw [if_pos (by omega)]] at he; exact zsub' (ih (k + 1) k (by omega) (by omega) (by omega) he) ⟨rfl, rfl, rfl, trivial⟩)
            | (rw [show sLeadF σ k f = f from by unfold sLeadF; rw [if_neg (by omega)]] at he; exact zsub' (ih (k + 1) f (by omega) (by omega) hf he) ⟨rfl, rfl, rfl, trivial⟩)
        · refine z_iload_n dX1_findLeader_21 rfl ?_
          refine z_bipush dX1_findLeader_22 (by decide) ?_
          refine z_icmp_eq (tgt := 36) dX1_findLeader_24 (by decide) (by omega) (by omega) (fun c24 => ?_) (fun c24 => ?_)
          · refine z_iload_n dX1_findLeader_36 rfl ?_
            refine z_istore_n dX1_findLeader_37 (by decide) ?_
            refine z_iinc dX1_findLeader_38 rfl (by decide) ?_
            refine z_goto (tgt := 5) dX1_findLeader_41 (by decide) ?_
            rw [zfor_step (by omega)] at he
            first
              | (rw [show sLeadF σ k f = k from by unfold sLeadF; rw [if_pos (by omega)]] at he; exact zsub' (ih (k + 1) k (by omega) (by omega) (by omega) he) ⟨rfl, rfl, rfl, trivial⟩)
              | (rw [show sLeadF σ k f = f from by unfold sLeadF; rw [if_neg (by omega)]] at he; exact zsub' (ih (k + 1) f (by omega) (by omega) hf he) ⟨rfl, rfl, rfl, trivial⟩)
          · refine z_aload_n dX1_findLeader_27 rfl ?_
            refine z_iload_n dX1_findLeader_28 rfl ?_
            refine z_iload_n dX1_findLeader_29 rfl ?_
            refine z_callV mX1_isAhead (vX1_isAhead hp hR (by omega) (by omega) hI) rfl dX1_findLeader_30 kX1_166 (by decide) rfl (by show _ ≤ 8; simp) (zP_r0 hp) (zm_sh_p0 hp) (by decide) rfl (fun v30 M30 q30 => ?_)
            obtain ⟨rfl, b30, rfl, h30⟩ := q30
            try simp only [zpush]
            refine z_if_eq (tgt := 38) dX1_findLeader_33 (by decide) (by omega) (fun c33 => ?_) (fun c33 => ?_)
            · refine z_iinc dX1_findLeader_38 rfl (by decide) ?_
              refine z_goto (tgt := 5) dX1_findLeader_41 (by decide) ?_
              rw [zfor_step (by omega)] at he
              first
                | (rw [show sLeadF σ k f = k from by unfold sLeadF; rw [if_pos (by omega)]] at he; exact zsub' (ih (k + 1) k (by omega) (by omega) (by omega) he) ⟨rfl, rfl, rfl, trivial⟩)
                | (rw [show sLeadF σ k f = f from by unfold sLeadF; rw [if_neg (by omega)]] at he; exact zsub' (ih (k + 1) f (by omega) (by omega) hf he) ⟨rfl, rfl, rfl, trivial⟩)
            · refine z_iload_n dX1_findLeader_36 rfl ?_
              refine z_istore_n dX1_findLeader_37 (by decide) ?_
              refine z_iinc dX1_findLeader_38 rfl (by decide) ?_
              refine z_goto (tgt := 5) dX1_findLeader_41 (by decide) ?_
              rw [zfor_step (by omega)] at he
              first
                | (rw [show sLeadF σ k f = k from by unfold sLeadF; rw [if_pos (by omega)]] at he; exact zsub' (ih (k + 1) k (by omega) (by omega) (by omega) he) ⟨rfl, rfl, rfl, trivial⟩)
                | (rw [show sLeadF σ k f = f from by unfold sLeadF; rw [if_neg (by omega)]] at he; exact zsub' (ih (k + 1) f (by omega) (by omega) hf he) ⟨rfl, rfl, rfl, trivial⟩)
  exact zsub' (L (σ 535 + 1).toNat 0 (-5) (by omega) (by omega) (by omega) rfl) ⟨rfl, rfl, rfl, trivial⟩

theorem vX1_tellSnail {G : zG} {M : zM} {σ : zS} {p k w : Int} (hp : zP p) (hR : zRel M p σ) (hk : -2147483648 ≤ k ∧ k < 2147483648) (hw : -2147483648 ≤ w ∧ w < 2147483648) (hI : zI σ) : zCall G yX1_tellSnail YX1_tellSnail [.inr (some p), .inl k, .inl w] M (fun v M' => M = M' ∧ v = some (.inl (sSnail σ k w))) := by
  refine zEnter (by decide +kernel) rfl (Nat.le_of_ble_eq_true rfl) ?_
  have hs9 := hI.1
  unfold zIs at hs9
  have hR5 := hR.2.2.2.2.2.1
  have hR6 := hR.2.2.2.2.2.2
  have hR4 := hR.2.2.2.2.1
  refine z_aload_n dX1_tellSnail_0 rfl ?_
  refine z_iload_n dX1_tellSnail_1 rfl ?_
  refine z_callV mX1_knows (vX1_knows hp hR (by omega) hI) rfl dX1_tellSnail_2 kX1_91 (by decide) rfl (by show _ ≤ 8; simp) (zP_r0 hp) (zm_sh_p0 hp) (by decide) rfl (fun v2 M2 q2 => ?_)
  obtain ⟨rfl, b2, rfl, h2⟩ := q2
  try simp only [zpush]
  refine z_if_ne (tgt := 10) dX1_tellSnail_5 (by decide) (by omega) (fun c5 => ?_) (fun c5 => ?_)
  · refine z_iload_n dX1_tellSnail_10 rfl ?_
    have hk9 := hI.2.2 k (by omega) (by omega)
    unfold zIk at hk9
    have hkR := hR.2.1 k (by omega) (by omega)
    unfold zRk at hkR
    rcases (show w = 0 ∨ w = 1 ∨ w = 2 ∨ w = 3 ∨ w = 4 ∨ w = 5 ∨ w = 6 ∨ w = 7 ∨ w = 8 ∨ w = 9 ∨ (w < 0 ∨ 9 < w) by omega) with h11 | h11 | h11 | h11 | h11 | h11 | h11 | h11 | h11 | h11 | h11
    · refine z_tabIn (off := 53) (tgt := 64) dX1_tellSnail_11 (by omega) (by omega) (by rw [h11]; rfl) (by decide) ?_
      refine z_aload_n dX1_tellSnail_64 rfl ?_
      refine z_getR (b := (p + 4)) dX1_tellSnail_65 fX1_21 (zP_r0 hp) (zm_sh_p0 hp) rfl rfl ?_
      refine z_iload_n dX1_tellSnail_68 rfl ?_
      refine z_iaload dX1_tellSnail_69 (zP_r hp 4 (by decide)) (zm_sh_p hp 4 (by decide)) (by omega) (by decide) ?_
      refine z_iret dX1_tellSnail_70 rfl ?_
      subst h11
      refine ⟨rfl, ?_⟩
      unfold sSnail
      congr 2
      rw [if_neg (by omega)]
      repeat' split
      all_goals omega
    · refine z_tabIn (off := 60) (tgt := 71) dX1_tellSnail_11 (by omega) (by omega) (by rw [h11]; rfl) (by decide) ?_
      refine z_aload_n dX1_tellSnail_71 rfl ?_
      refine z_getR (b := (p + 5)) dX1_tellSnail_72 fX1_24 (zP_r0 hp) (zm_sh_p0 hp) rfl rfl ?_
      refine z_iload_n dX1_tellSnail_75 rfl ?_
      refine z_iaload dX1_tellSnail_76 (zP_r hp 5 (by decide)) (zm_sh_p hp 5 (by decide)) (by omega) (by decide) ?_
      refine z_iret dX1_tellSnail_77 rfl ?_
      subst h11
      refine ⟨rfl, ?_⟩
      unfold sSnail
      congr 2
      rw [if_neg (by omega)]
      repeat' split
      all_goals omega
    · refine z_tabIn (off := 67) (tgt := 78) dX1_tellSnail_11 (by omega) (by omega) (by rw [h11]; rfl) (by decide) ?_
      refine z_aload_n dX1_tellSnail_78 rfl ?_
      refine z_getR (b := (p + 6)) dX1_tellSnail_79 fX1_27 (zP_r0 hp) (zm_sh_p0 hp) rfl rfl ?_
      refine z_iload_n dX1_tellSnail_82 rfl ?_
      refine z_iaload dX1_tellSnail_83 (zP_r hp 6 (by decide)) (zm_sh_p hp 6 (by decide)) (by omega) (by decide) ?_
      refine z_iret dX1_tellSnail_84 rfl ?_
      subst h11
      refine ⟨rfl, ?_⟩
      unfold sSnail
      congr 2
      rw [if_neg (by omega)]
      repeat' split
      all_goals omega
    · refine z_tabIn (off := 74) (tgt := 85) dX1_tellSnail_11 (by omega) (by omega) (by rw [h11]; rfl) (by decide) ?_
      refine z_aload_n dX1_tellSnail_85 rfl ?_
      refine z_getR (b := (p + 7)) dX1_tellSnail_86 fX1_30 (zP_r0 hp) (zm_sh_p0 hp) rfl rfl ?_
      refine z_iload_n dX1_tellSnail_89 rfl ?_
      refine z_iaload dX1_tellSnail_90 (zP_r hp 7 (by decide)) (zm_sh_p hp 7 (by decide)) (by omega) (by decide) ?_
      refine z_iret dX1_tellSnail_91 rfl ?_
      subst h11
      refine ⟨rfl, ?_⟩
      unfold sSnail
      congr 2
      rw [if_neg (by omega)]
      repeat' split
      all_goals omega
    · refine z_tabIn (off := 81) (tgt := 92) dX1_tellSnail_11 (by omega) (by omega) (by rw [h11]; rfl) (by decide) ?_
      refine z_aload_n dX1_tellSnail_92 rfl ?_
      refine z_getR (b := (p + 8)) dX1_tellSnail_93 fX1_33 (zP_r0 hp) (zm_sh_p0 hp) rfl rfl ?_
      refine z_iload_n dX1_tellSnail_96 rfl ?_
      refine z_iaload dX1_tellSnail_97 (zP_r hp 8 (by decide)) (zm_sh_p hp 8 (by decide)) (by omega) (by decide) ?_
      refine z_iret dX1_tellSnail_98 rfl ?_
      subst h11
      refine ⟨rfl, ?_⟩
      unfold sSnail
      congr 2
      rw [if_neg (by omega)]
      repeat' split
      all_goals omega
    · refine z_tabIn (off := 88) (tgt := 99) dX1_tellSnail_11 (by omega) (by omega) (by rw [h11]; rfl) (by decide) ?_
      refine z_aload_n dX1_tellSnail_99 rfl ?_
      refine z_getR (b := (p + 9)) dX1_tellSnail_100 fX1_36 (zP_r0 hp) (zm_sh_p0 hp) rfl rfl ?_
      refine z_iload_n dX1_tellSnail_103 rfl ?_
      refine z_iaload dX1_tellSnail_104 (zP_r hp 9 (by decide)) (zm_sh_p hp 9 (by decide)) (by omega) (by decide) ?_
      refine z_iret dX1_tellSnail_105 rfl ?_
      subst h11
      refine ⟨rfl, ?_⟩
      unfold sSnail
      congr 2
      rw [if_neg (by omega)]
      repeat' split
      all_goals omega
    · refine z_tabIn (off := 95) (tgt := 106) dX1_tellSnail_11 (by omega) (by omega) (by rw [h11]; rfl) (by decide) ?_
      refine z_aload_n dX1_tellSnail_106 rfl ?_
      refine z_getR (b := (p + 10)) dX1_tellSnail_107 fX1_39 (zP_r0 hp) (zm_sh_p0 hp) rfl rfl ?_
      refine z_iload_n dX1_tellSnail_110 rfl ?_
      refine z_iaload dX1_tellSnail_111 (zP_r hp 10 (by decide)) (zm_sh_p hp 10 (by decide)) (by omega) (by decide) ?_
      refine z_iret dX1_tellSnail_112 rfl ?_
      subst h11
      refine ⟨rfl, ?_⟩
      unfold sSnail
      congr 2
      rw [if_neg (by omega)]
      repeat' split
      all_goals omega
    · refine z_tabIn (off := 102) (tgt := 113) dX1_tellSnail_11 (by omega) (by omega) (by rw [h11]; rfl) (by decide) ?_
      refine z_aload_n dX1_tellSnail_113 rfl ?_
      refine z_getR (b := (p + 11)) dX1_tellSnail_114 fX1_42 (zP_r0 hp) (zm_sh_p0 hp) rfl rfl ?_
      refine z_iload_n dX1_tellSnail_117 rfl ?_
      refine z_iaload dX1_tellSnail_118 (zP_r hp 11 (by decide)) (zm_sh_p hp 11 (by decide)) (by omega) (by decide) ?_
      refine z_iret dX1_tellSnail_119 rfl ?_
      subst h11
      refine ⟨rfl, ?_⟩
      unfold sSnail
      congr 2
      rw [if_neg (by omega)]
      repeat' split
      all_goals omega
    · refine z_tabIn (off := 109) (tgt := 120) dX1_tellSnail_11 (by omega) (by omega) (by rw [h11]; rfl) (by decide) ?_
      refine z_aload_n dX1_tellSnail_120 rfl ?_
      refine z_getR (b := (p + 12)) dX1_tellSnail_121 fX1_45 (zP_r0 hp) (zm_sh_p0 hp) rfl rfl ?_
      refine z_iload_n dX1_tellSnail_124 rfl ?_
      refine z_iaload dX1_tellSnail_125 (zP_r hp 12 (by decide)) (zm_sh_p hp 12 (by decide)) (by omega) (by decide) ?_
      refine z_iret dX1_tellSnail_126 rfl ?_
      subst h11
      refine ⟨rfl, ?_⟩
      unfold sSnail
      congr 2
      rw [if_neg (by omega)]
      repeat' split
      all_goals omega
    · refine z_tabIn (off := 116) (tgt := 127) dX1_tellSnail_11 (by omega) (by omega) (by rw [h11]; rfl) (by decide) ?_
      refine z_aload_n dX1_tellSnail_127 rfl ?_
      refine z_getR (b := (p + 13)) dX1_tellSnail_128 fX1_48 (zP_r0 hp) (zm_sh_p0 hp) rfl rfl ?_
      refine z_iload_n dX1_tellSnail_131 rfl ?_
      refine z_iaload dX1_tellSnail_132 (zP_r hp 13 (by decide)) (zm_sh_p hp 13 (by decide)) (by omega) (by decide) ?_
      refine z_iret dX1_tellSnail_133 rfl ?_
      subst h11
      refine ⟨rfl, ?_⟩
      unfold sSnail
      congr 2
      rw [if_neg (by omega)]
      repeat' split
      all_goals omega
    · refine z_tabOut (tgt := 134) dX1_tellSnail_11 (by omega) h11 (by decide) ?_
      refine z_bipush dX1_tellSnail_134 (by decide) ?_
      refine z_iret dX1_tellSnail_136 rfl ?_
      exact ⟨rfl, by unfold sSnail; rw [if_neg (by omega), if_pos (by omega)]⟩
  · refine z_iconst dX1_tellSnail_8 ?_
    refine z_iret dX1_tellSnail_9 rfl ?_
    exact ⟨rfl, by unfold sSnail; rw [if_pos (by omega)]⟩

theorem vX1_tellCell {G : zG} {M : zM} {σ : zS} {p lane row w : Int} (hp : zP p) (hR : zRel M p σ) (hlane : -2147483648 ≤ lane ∧ lane < 2147483648) (hrow : -2147483648 ≤ row ∧ row < 2147483648) (hw : -2147483648 ≤ w ∧ w < 2147483648) (hI : zI σ) : zCall G yX1_tellCell YX1_tellCell [.inr (some p), .inl lane, .inl row, .inl w] M (fun v M' => M = M' ∧ v = some (.inl (sCell σ lane row w))) := by
  refine zEnter (by decide +kernel) rfl (Nat.le_of_ble_eq_true rfl) ?_
  have hs9 := hI.1
  unfold zIs at hs9
  have hR5 := hR.2.2.2.2.2.1
  have hR6 := hR.2.2.2.2.2.2
  have hR4 := hR.2.2.2.2.1
  refine z_iload_n dX1_tellCell_0 rfl ?_
  refine z_iload_n dX1_tellCell_1 rfl ?_
  refine z_callSN mX4_cellAt (vX4_cellAt (by omega) (by omega)) rfl dX1_tellCell_2 kX1_98 (by decide) rfl (by show _ ≤ 8; simp) (fun v2 M2 q2 => ?_)
  obtain ⟨rfl, c2, rfl, h2⟩ := q2
  try simp only [zpush]
  refine z_istore dX1_tellCell_5 (by decide) ?_
  refine z_iload dX1_tellCell_7 rfl ?_
  refine z_iconst dX1_tellCell_9 ?_
  refine z_icmp_ne (tgt := 15) dX1_tellCell_10 (by decide) (by omega) (by omega) (fun c10 => ?_) (fun c10 => ?_)
  · have hce : c2 = 6 * row + lane := by omega
    subst hce
    have hc9 := hI.2.1 (6 * row + lane) (by omega) (by omega)
    unfold zIc at hc9
    have hcR := hR.1 (6 * row + lane) (by omega) (by omega)
    unfold zRc at hcR
    refine z_iload_n dX1_tellCell_15 rfl ?_
    rcases (show w = 0 ∨ w = 1 ∨ w = 2 ∨ w = 3 ∨ (w < 0 ∨ 3 < w) by omega) with h16 | h16 | h16 | h16 | h16
    · refine z_tabIn (off := 32) (tgt := 48) dX1_tellCell_16 (by omega) (by omega) (by rw [h16]; rfl) (by decide) ?_
      refine z_aload_n dX1_tellCell_48 rfl ?_
      refine z_getR (b := (p + 1)) dX1_tellCell_49 fX1_9 (zP_r0 hp) (zm_sh_p0 hp) rfl rfl ?_
      refine z_iload dX1_tellCell_52 rfl ?_
      refine z_iaload dX1_tellCell_54 (zP_r hp 1 (by decide)) (zm_sh_p hp 1 (by decide)) (by omega) (by decide) ?_
      refine z_iret dX1_tellCell_55 rfl ?_
      refine ⟨rfl, ?_⟩
      unfold sCell
      congr 2
      repeat' split
      all_goals first | rfl | omega
    · refine z_tabIn (off := 40) (tgt := 56) dX1_tellCell_16 (by omega) (by omega) (by rw [h16]; rfl) (by decide) ?_
      refine z_aload_n dX1_tellCell_56 rfl ?_
      refine z_getR (b := (p + 2)) dX1_tellCell_57 fX1_15 (zP_r0 hp) (zm_sh_p0 hp) rfl rfl ?_
      refine z_iload dX1_tellCell_60 rfl ?_
      refine z_iaload dX1_tellCell_62 (zP_r hp 2 (by decide)) (zm_sh_p hp 2 (by decide)) (by omega) (by decide) ?_
      refine z_iret dX1_tellCell_63 rfl ?_
      refine ⟨rfl, ?_⟩
      unfold sCell
      congr 2
      repeat' split
      all_goals first | rfl | omega
    · refine z_tabIn (off := 48) (tgt := 64) dX1_tellCell_16 (by omega) (by omega) (by rw [h16]; rfl) (by decide) ?_
      refine z_aload_n dX1_tellCell_64 rfl ?_
      refine z_getR (b := (p + 3)) dX1_tellCell_65 fX1_18 (zP_r0 hp) (zm_sh_p0 hp) rfl rfl ?_
      refine z_iload dX1_tellCell_68 rfl ?_
      refine z_iaload dX1_tellCell_70 (zP_r hp 3 (by decide)) (zm_sh_p hp 3 (by decide)) (by omega) (by decide) ?_
      refine z_iret dX1_tellCell_71 rfl ?_
      refine ⟨rfl, ?_⟩
      unfold sCell
      congr 2
      repeat' split
      all_goals first | rfl | omega
    · refine z_tabIn (off := 56) (tgt := 72) dX1_tellCell_16 (by omega) (by omega) (by rw [h16]; rfl) (by decide) ?_
      refine z_aload_n dX1_tellCell_72 rfl ?_
      refine z_iload_n dX1_tellCell_73 rfl ?_
      refine z_iload_n dX1_tellCell_74 rfl ?_
      refine z_callV mX1_snailOn (vX1_snailOn hp hR (by omega) (by omega) hI) rfl dX1_tellCell_75 kX1_84 (by decide) rfl (by show _ ≤ 8; simp) (zP_r0 hp) (zm_sh_p0 hp) (by decide) rfl (fun v75 M75 q75 => ?_)
      obtain ⟨rfl, rfl⟩ := q75
      try simp only [zpush]
      refine z_iret dX1_tellCell_78 rfl ?_
      refine ⟨rfl, ?_⟩
      unfold sCell
      congr 2
      repeat' split
      all_goals first | rfl | omega
    · refine z_tabOut (tgt := 79) dX1_tellCell_16 (by omega) h16 (by decide) ?_
      refine z_bipush dX1_tellCell_79 (by decide) ?_
      refine z_iret dX1_tellCell_81 rfl ?_
      refine ⟨rfl, ?_⟩
      unfold sCell
      congr 2
      repeat' split
      all_goals first | rfl | omega
  · refine z_iconst dX1_tellCell_13 ?_
    refine z_iret dX1_tellCell_14 rfl ?_
    refine ⟨rfl, ?_⟩
    unfold sCell
    congr 2
    repeat' split
    all_goals first | rfl | omega

theorem vX1_tellOwed {G : zG} {M : zM} {σ : zS} {p k ow : Int} (hp : zP p) (hR : zRel M p σ) (hk : -2147483648 ≤ k ∧ k < 2147483648) (how : -2147483648 ≤ ow ∧ ow < 2147483648) (hI : zI σ) : zCall G yX1_tellOwed YX1_tellOwed [.inr (some p), .inl k, .inl ow] M (fun v M' => M = M' ∧ v = some (.inl (sOwes σ k ow))) := by
  refine zEnter (by decide +kernel) rfl (Nat.le_of_ble_eq_true rfl) ?_
  have hs9 := hI.1
  unfold zIs at hs9
  have hR5 := hR.2.2.2.2.2.1
  have hR6 := hR.2.2.2.2.2.2
  have hR4 := hR.2.2.2.2.1
  refine z_aload_n dX1_tellOwed_0 rfl ?_
  refine z_iload_n dX1_tellOwed_1 rfl ?_
  refine z_callV mX1_knows (vX1_knows hp hR (by omega) hI) rfl dX1_tellOwed_2 kX1_91 (by decide) rfl (by show _ ≤ 8; simp) (zP_r0 hp) (zm_sh_p0 hp) (by decide) rfl (fun v2 M2 q2 => ?_)
  obtain ⟨rfl, b2, rfl, h2⟩ := q2
  try simp only [zpush]
  refine z_if_eq (tgt := 16) dX1_tellOwed_5 (by decide) (by omega) (fun c5 => ?_) (fun c5 => ?_)
  · refine z_iconst dX1_tellOwed_16 ?_
    refine z_iret dX1_tellOwed_17 rfl ?_
    refine ⟨rfl, ?_⟩
    unfold sOwes
    first
      | (rw [if_pos (by omega)]; done)
      | (rw [if_neg (by omega), if_pos (by omega)]; done)
      | (have hoR := hR.2.2.2.1 k ow (by omega) (by omega) (by omega) (by omega); unfold zRo at hoR; rw [if_neg (by omega), if_neg (by omega)]; congr 2; omega)
  · refine z_aload_n dX1_tellOwed_8 rfl ?_
    refine z_iload_n dX1_tellOwed_9 rfl ?_
    refine z_callV mX1_knows (vX1_knows hp hR (by omega) hI) rfl dX1_tellOwed_10 kX1_91 (by decide) rfl (by show _ ≤ 8; simp) (zP_r0 hp) (zm_sh_p0 hp) (by decide) rfl (fun v10 M10 q10 => ?_)
    obtain ⟨rfl, b10, rfl, h10⟩ := q10
    try simp only [zpush]
    refine z_if_ne (tgt := 18) dX1_tellOwed_13 (by decide) (by omega) (fun c13 => ?_) (fun c13 => ?_)
    · refine z_iload_n dX1_tellOwed_18 rfl ?_
      refine z_iload_n dX1_tellOwed_19 rfl ?_
      refine z_icmp_ne (tgt := 28) dX1_tellOwed_20 (by decide) (by omega) (by omega) (fun c20 => ?_) (fun c20 => ?_)
      · refine z_aload_n dX1_tellOwed_28 rfl ?_
        refine z_getR (b := (p + 14)) dX1_tellOwed_29 fX1_53 (zP_r0 hp) (zm_sh_p0 hp) rfl rfl ?_
        refine z_iload_n dX1_tellOwed_32 rfl ?_
        refine z_aaload (b := (p + 15 + k)) dX1_tellOwed_33 (zP_r hp 14 (by decide)) (zm_sh_p hp 14 (by decide)) (by decide) (by omega) (by decide) rfl (by omega) ?_
        refine z_iload_n dX1_tellOwed_34 rfl ?_
        refine z_iaload dX1_tellOwed_35 (zr_row hp (by omega)) (zsh_row hp (by omega)) (by omega) (by decide) ?_
        refine z_iret dX1_tellOwed_36 rfl ?_
        refine ⟨rfl, ?_⟩
        unfold sOwes
        first
          | (rw [if_pos (by omega)]; done)
          | (rw [if_neg (by omega), if_pos (by omega)]; done)
          | (have hoR := hR.2.2.2.1 k ow (by omega) (by omega) (by omega) (by omega); unfold zRo at hoR; rw [if_neg (by omega), if_neg (by omega)]; congr 2; omega)
      · refine z_bipush dX1_tellOwed_23 (by decide) ?_
        refine z_goto (tgt := 36) dX1_tellOwed_25 (by decide) ?_
        refine z_iret dX1_tellOwed_36 rfl ?_
        refine ⟨rfl, ?_⟩
        unfold sOwes
        first
          | (rw [if_pos (by omega)]; done)
          | (rw [if_neg (by omega), if_pos (by omega)]; done)
          | (have hoR := hR.2.2.2.1 k ow (by omega) (by omega) (by omega) (by omega); unfold zRo at hoR; rw [if_neg (by omega), if_neg (by omega)]; congr 2; omega)
    · refine z_iconst dX1_tellOwed_16 ?_
      refine z_iret dX1_tellOwed_17 rfl ?_
      refine ⟨rfl, ?_⟩
      unfold sOwes
      first
        | (rw [if_pos (by omega)]; done)
        | (rw [if_neg (by omega), if_pos (by omega)]; done)
        | (have hoR := hR.2.2.2.1 k ow (by omega) (by omega) (by omega) (by omega); unfold zRo at hoR; rw [if_neg (by omega), if_neg (by omega)]; congr 2; omega)

