theorem vX1_knows {G : zG} {M : zM} {σ : zS} {p k : Int} (hp : zP p) (hR : zRel M p σ) (hk : -2147483648 ≤ k ∧ k < 2147483648) (hI : zI σ) : zCall G yX1_knows YX1_knows [.inr (some p), .inl k] M (fun v M' => M = M' ∧ ∃ zb : Int, v = some (.inl zb) ∧ ((zb = 1 ∧ (0 ≤ k ∧ k < σ 535)) ∨ (zb = 0 ∧ ¬ (0 ≤ k ∧ k < σ 535)))) := by
  refine zEnter (by decide +kernel) rfl (Nat.le_of_ble_eq_true rfl) ?_
  have hs9 := hI.1
  unfold zIs at hs9
  have hR5 := hR.2.2.2.2.2.1
  have hR6 := hR.2.2.2.2.2.2
  have hR4 := hR.2.2.2.2.1
  refine z_iload_n dX1_knows_0 rfl ?_
  refine z_if_lt (tgt := 16) dX1_knows_1 (by decide) (by omega) (fun c1 => ?_) (fun c1 => ?_)
  · refine z_iconst dX1_knows_16 ?_
    refine z_zret dX1_knows_17 rfl (by omega) ?_
    exact ⟨rfl, _, rfl, by omega⟩
  · refine z_iload_n dX1_knows_4 rfl ?_
    refine z_aload_n dX1_knows_5 rfl ?_
    refine z_getI (kI := 15) dX1_knows_6 fX1_67 (zP_r0 hp) (zm_sh_p0 hp) rfl rfl ?_
    refine z_icmp_ge (tgt := 16) dX1_knows_9 (by decide) (by omega) (by omega) (fun c9 => ?_) (fun c9 => ?_)
    · refine z_iconst dX1_knows_16 ?_
      refine z_zret dX1_knows_17 rfl (by omega) ?_
      exact ⟨rfl, _, rfl, by omega⟩
    · refine z_iconst dX1_knows_12 ?_
      refine z_goto (tgt := 17) dX1_knows_13 (by decide) ?_
      refine z_zret dX1_knows_17 rfl (by omega) ?_
      exact ⟨rfl, _, rfl, by omega⟩

theorem vX1_creeps {G : zG} {M : zM} {σ : zS} {p k : Int} (hp : zP p) (hR : zRel M p σ) (hk : -2147483648 ≤ k ∧ k < 2147483648) (hI : zI σ) : zCall G yX1_creeps YX1_creeps [.inr (some p), .inl k] M (fun v M' => M = M' ∧ ∃ zb : Int, v = some (.inl zb) ∧ ((zb = 1 ∧ ((0 ≤ k ∧ k < σ 535) ∧ σ (360 + 10 * k + 3) = 0)) ∨ (zb = 0 ∧ ¬ ((0 ≤ k ∧ k < σ 535) ∧ σ (360 + 10 * k + 3) = 0)))) := by
  refine zEnter (by decide +kernel) rfl (Nat.le_of_ble_eq_true rfl) ?_
  have hs9 := hI.1
  unfold zIs at hs9
  have hR5 := hR.2.2.2.2.2.1
  have hR6 := hR.2.2.2.2.2.2
  have hR4 := hR.2.2.2.2.1
  refine z_aload_n dX1_creeps_0 rfl ?_
  refine z_iload_n dX1_creeps_1 rfl ?_
  refine z_callV mX1_knows (vX1_knows hp hR (by omega) hI) rfl dX1_creeps_2 kX1_91 (by decide) rfl (by show _ ≤ 8; simp) (zP_r0 hp) (zm_sh_p0 hp) (by decide) rfl (fun v2 M2 q2 => ?_)
  obtain ⟨rfl, b2, rfl, h2⟩ := q2
  try simp only [zpush]
  refine z_if_eq (tgt := 21) dX1_creeps_5 (by decide) (by omega) (fun c5 => ?_) (fun c5 => ?_)
  · refine z_iconst dX1_creeps_21 ?_
    refine z_zret dX1_creeps_22 rfl (by omega) ?_
    exact ⟨rfl, _, rfl, by omega⟩
  · have hk9 := hI.2.2 k (by omega) (by omega)
    unfold zIk at hk9
    have hkR := hR.2.1 k (by omega) (by omega)
    unfold zRk at hkR
    refine z_aload_n dX1_creeps_8 rfl ?_
    refine z_getR (b := (p + 7)) dX1_creeps_9 fX1_30 (zP_r0 hp) (zm_sh_p0 hp) rfl rfl ?_
    refine z_iload_n dX1_creeps_12 rfl ?_
    refine z_iaload dX1_creeps_13 (zP_r hp 7 (by decide)) (zm_sh_p hp 7 (by decide)) (by omega) (by decide) ?_
    refine z_if_ne (tgt := 21) dX1_creeps_14 (by decide) (by omega) (fun c14 => ?_) (fun c14 => ?_)
    · refine z_iconst dX1_creeps_21 ?_
      refine z_zret dX1_creeps_22 rfl (by omega) ?_
      exact ⟨rfl, _, rfl, by omega⟩
    · refine z_iconst dX1_creeps_17 ?_
      refine z_goto (tgt := 22) dX1_creeps_18 (by decide) ?_
      refine z_zret dX1_creeps_22 rfl (by omega) ?_
      exact ⟨rfl, _, rfl, by omega⟩

theorem vX1_hasEnded {G : zG} {M : zM} {σ : zS} {p k : Int} (hp : zP p) (hR : zRel M p σ) (hk : -2147483648 ≤ k ∧ k < 2147483648) (hI : zI σ) : zCall G yX1_hasEnded YX1_hasEnded [.inr (some p), .inl k] M (fun v M' => M = M' ∧ ∃ zb : Int, v = some (.inl zb) ∧ ((zb = 1 ∧ ((0 ≤ k ∧ k < σ 535) ∧ σ (360 + 10 * k + 3) = 1)) ∨ (zb = 0 ∧ ¬ ((0 ≤ k ∧ k < σ 535) ∧ σ (360 + 10 * k + 3) = 1)))) := by
  refine zEnter (by decide +kernel) rfl (Nat.le_of_ble_eq_true rfl) ?_
  have hs9 := hI.1
  unfold zIs at hs9
  have hR5 := hR.2.2.2.2.2.1
  have hR6 := hR.2.2.2.2.2.2
  have hR4 := hR.2.2.2.2.1
  refine z_aload_n dX1_hasEnded_0 rfl ?_
  refine z_iload_n dX1_hasEnded_1 rfl ?_
  refine z_callV mX1_knows (vX1_knows hp hR (by omega) hI) rfl dX1_hasEnded_2 kX1_91 (by decide) rfl (by show _ ≤ 8; simp) (zP_r0 hp) (zm_sh_p0 hp) (by decide) rfl (fun v2 M2 q2 => ?_)
  obtain ⟨rfl, b2, rfl, h2⟩ := q2
  try simp only [zpush]
  refine z_if_eq (tgt := 22) dX1_hasEnded_5 (by decide) (by omega) (fun c5 => ?_) (fun c5 => ?_)
  · refine z_iconst dX1_hasEnded_22 ?_
    refine z_zret dX1_hasEnded_23 rfl (by omega) ?_
    exact ⟨rfl, _, rfl, by omega⟩
  · have hk9 := hI.2.2 k (by omega) (by omega)
    unfold zIk at hk9
    have hkR := hR.2.1 k (by omega) (by omega)
    unfold zRk at hkR
    refine z_aload_n dX1_hasEnded_8 rfl ?_
    refine z_getR (b := (p + 7)) dX1_hasEnded_9 fX1_30 (zP_r0 hp) (zm_sh_p0 hp) rfl rfl ?_
    refine z_iload_n dX1_hasEnded_12 rfl ?_
    refine z_iaload dX1_hasEnded_13 (zP_r hp 7 (by decide)) (zm_sh_p hp 7 (by decide)) (by omega) (by decide) ?_
    refine z_iconst dX1_hasEnded_14 ?_
    refine z_icmp_ne (tgt := 22) dX1_hasEnded_15 (by decide) (by omega) (by omega) (fun c15 => ?_) (fun c15 => ?_)
    · refine z_iconst dX1_hasEnded_22 ?_
      refine z_zret dX1_hasEnded_23 rfl (by omega) ?_
      exact ⟨rfl, _, rfl, by omega⟩
    · refine z_iconst dX1_hasEnded_18 ?_
      refine z_goto (tgt := 23) dX1_hasEnded_19 (by decide) ?_
      refine z_zret dX1_hasEnded_23 rfl (by omega) ?_
      exact ⟨rfl, _, rfl, by omega⟩

theorem vX4_cellAt {G : zG} {M : zM} {lane row : Int} (hlane : -2147483648 ≤ lane ∧ lane < 2147483648) (hrow : -2147483648 ≤ row ∧ row < 2147483648) : zCall G yX4_cellAt YX4_cellAt [.inl lane, .inl row] M (fun v M' => M = M' ∧ ∃ c : Int, v = some (.inl c) ∧ ((((0 ≤ lane ∧ lane ≤ 5) ∧ (0 ≤ row ∧ row ≤ 19)) ∧ c = 6 * row + lane) ∨ (¬ ((0 ≤ lane ∧ lane ≤ 5) ∧ (0 ≤ row ∧ row ≤ 19)) ∧ c = -1))) := by
  refine zEnter (by decide +kernel) rfl (Nat.le_of_ble_eq_true rfl) ?_
  refine z_iload_n dX4_cellAt_0 rfl ?_
  refine z_if_lt (tgt := 20) dX4_cellAt_1 (by decide) (by omega) (fun c1 => ?_) (fun c1 => ?_)
  · refine z_iconst dX4_cellAt_20 ?_
    refine z_iret dX4_cellAt_21 rfl ?_
    exact ⟨rfl, _, rfl, by omega⟩
  · refine z_iload_n dX4_cellAt_4 rfl ?_
    refine z_bipush dX4_cellAt_5 (by decide) ?_
    refine z_icmp_ge (tgt := 20) dX4_cellAt_7 (by decide) (by omega) (by omega) (fun c7 => ?_) (fun c7 => ?_)
    · refine z_iconst dX4_cellAt_20 ?_
      refine z_iret dX4_cellAt_21 rfl ?_
      exact ⟨rfl, _, rfl, by omega⟩
    · refine z_iload_n dX4_cellAt_10 rfl ?_
      refine z_if_lt (tgt := 20) dX4_cellAt_11 (by decide) (by omega) (fun c11 => ?_) (fun c11 => ?_)
      · refine z_iconst dX4_cellAt_20 ?_
        refine z_iret dX4_cellAt_21 rfl ?_
        exact ⟨rfl, _, rfl, by omega⟩
      · refine z_iload_n dX4_cellAt_14 rfl ?_
        refine z_bipush dX4_cellAt_15 (by decide) ?_
        refine z_icmp_lt (tgt := 22) dX4_cellAt_17 (by decide) (by omega) (by omega) (fun c17 => ?_) (fun c17 => ?_)
        · refine z_iload_n dX4_cellAt_22 rfl ?_
          refine z_bipush dX4_cellAt_23 (by decide) ?_
          refine z_imul dX4_cellAt_25 ?_
          refine z_iload_n dX4_cellAt_26 rfl ?_
          refine z_iadd dX4_cellAt_27 ?_
          refine z_iret dX4_cellAt_28 rfl ?_
          exact ⟨rfl, _, rfl, by omega⟩
        · refine z_iconst dX4_cellAt_20 ?_
          refine z_iret dX4_cellAt_21 rfl ?_
          exact ⟨rfl, _, rfl, by omega⟩

theorem vX1_snailOn {G : zG} {M : zM} {σ : zS} {p lane row : Int} (hp : zP p) (hR : zRel M p σ) (hlane : -2147483648 ≤ lane ∧ lane < 2147483648) (hrow : -2147483648 ≤ row ∧ row < 2147483648) (hI : zI σ) : zCall G yX1_snailOn YX1_snailOn [.inr (some p), .inl lane, .inl row] M (fun v M' => M = M' ∧ v = some (.inl (sOn σ lane row))) := by
  refine zEnter (by decide +kernel) rfl (Nat.le_of_ble_eq_true rfl) ?_
  have hs9 := hI.1
  unfold zIs at hs9
  have hR5 := hR.2.2.2.2.2.1
  have hR6 := hR.2.2.2.2.2.2
  have hR4 := hR.2.2.2.2.1
  refine z_iconst dX1_snailOn_0 ?_
  refine z_istore_n dX1_snailOn_1 (by decide) ?_
  have L : ∀ (n : Nat) (k : Int), (0 ≤ k ∧ k ≤ σ 535) → (k + n = σ 535 + 1) → (zfind (sOnP σ lane row) k (σ 535) = sOn σ lane row) → zW G YX1_snailOn (fun v M' => M = M' ∧ v = some (.inl (sOn σ lane row))) 2 [(3, .inl k), (0, .inr (some p)), (1, .inl lane), (2, .inl row)] [] M := by
    intro n
    induction n with
    | zero => intro k hk0 hkn he; exfalso; omega
    | succ n ih =>
      intro k hk0 hkn he
      refine z_iload_n dX1_snailOn_2 rfl ?_
      refine z_aload_n dX1_snailOn_3 rfl ?_
      refine z_getI (kI := 15) dX1_snailOn_4 fX1_67 (zP_r0 hp) (zm_sh_p0 hp) rfl rfl ?_
      refine z_icmp_ge (tgt := 47) dX1_snailOn_7 (by decide) (by omega) (by omega) (fun c7 => ?_) (fun c7 => ?_)
      · refine z_bipush dX1_snailOn_47 (by decide) ?_
        refine z_iret dX1_snailOn_49 rfl ?_
        rw [zfind_end (by omega)] at he
        exact ⟨rfl, by rw [he]⟩
      · have hk9 := hI.2.2 k (by omega) (by omega)
        unfold zIk at hk9
        have hkR := hR.2.1 k (by omega) (by omega)
        unfold zRk at hkR
        refine z_aload_n dX1_snailOn_10 rfl ?_
        refine z_getR (b := (p + 7)) dX1_snailOn_11 fX1_30 (zP_r0 hp) (zm_sh_p0 hp) rfl rfl ?_
        refine z_iload_n dX1_snailOn_14 rfl ?_
        refine z_iaload dX1_snailOn_15 (zP_r hp 7 (by decide)) (zm_sh_p hp 7 (by decide)) (by omega) (by decide) ?_
        refine z_if_ne (tgt := 41) dX1_snailOn_16 (by decide) (by omega) (fun c16 => ?_) (fun c16 => ?_)
        · refine z_iinc dX1_snailOn_41 rfl (by decide) ?_
          refine z_goto (tgt := 2) dX1_snailOn_44 (by decide) ?_
          rw [zfind_step (by omega), if_neg (sOnP_f (by omega))] at he
          exact zsub' (ih (k + 1) (by omega) (by omega) he) ⟨rfl, rfl, rfl, rfl, trivial⟩
        · refine z_aload_n dX1_snailOn_19 rfl ?_
          refine z_getR (b := (p + 4)) dX1_snailOn_20 fX1_21 (zP_r0 hp) (zm_sh_p0 hp) rfl rfl ?_
          refine z_iload_n dX1_snailOn_23 rfl ?_
          refine z_iaload dX1_snailOn_24 (zP_r hp 4 (by decide)) (zm_sh_p hp 4 (by decide)) (by omega) (by decide) ?_
          refine z_iload_n dX1_snailOn_25 rfl ?_
          refine z_icmp_ne (tgt := 41) dX1_snailOn_26 (by decide) (by omega) (by omega) (fun c26 => ?_) (fun c26 => ?_)
          · refine z_iinc dX1_snailOn_41 rfl (by decide) ?_
            refine z_goto (tgt := 2) dX1_snailOn_44 (by decide) ?_
            rw [zfind_step (by omega), if_neg (sOnP_f (by omega))] at he
            exact zsub' (ih (k + 1) (by omega) (by omega) he) ⟨rfl, rfl, rfl, rfl, trivial⟩
          · refine z_aload_n dX1_snailOn_29 rfl ?_
            refine z_getR (b := (p + 5)) dX1_snailOn_30 fX1_24 (zP_r0 hp) (zm_sh_p0 hp) rfl rfl ?_
            refine z_iload_n dX1_snailOn_33 rfl ?_
            refine z_iaload dX1_snailOn_34 (zP_r hp 5 (by decide)) (zm_sh_p hp 5 (by decide)) (by omega) (by decide) ?_
            refine z_iload_n dX1_snailOn_35 rfl ?_
            refine z_icmp_ne (tgt := 41) dX1_snailOn_36 (by decide) (by omega) (by omega) (fun c36 => ?_) (fun c36 => ?_)
            · refine z_iinc dX1_snailOn_41 rfl (by decide) ?_
              refine z_goto (tgt := 2) dX1_snailOn_44 (by decide) ?_
              rw [zfind_step (by omega), if_neg (sOnP_f (by omega))] at he
              exact zsub' (ih (k + 1) (by omega) (by omega) he) ⟨rfl, rfl, rfl, rfl, trivial⟩
            · refine z_iload_n dX1_snailOn_39 rfl ?_
              refine z_iret dX1_snailOn_40 rfl ?_
              rw [zfind_step (by omega), if_pos (sOnP_t (by omega))] at he
              exact ⟨rfl, by rw [he]⟩
  exact zsub' (L (σ 535 + 1).toNat 0 (by omega) (by omega) rfl) ⟨rfl, rfl, rfl, rfl, trivial⟩

theorem vX1_priceOf {G : zG} {M : zM} {σ : zS} {p c : Int} (hp : zP p) (hR : zRel M p σ) (hc : 0 ≤ c ∧ c < 120) : zCall G yX1_priceOf YX1_priceOf [.inr (some p), .inl c] M (fun v M' => M = M' ∧ v = some (.inl (1 + σ c))) := by
  refine zEnter (by decide +kernel) rfl (Nat.le_of_ble_eq_true rfl) ?_
  refine z_iload_n dX1_priceOf_0 rfl ?_
  refine z_if_lt (tgt := 21) dX1_priceOf_1 (by decide) (by omega) (fun c1 => ?_) (fun c1 => ?_)
  · refine z_bipush dX1_priceOf_21 (by decide) ?_
    refine z_iret dX1_priceOf_23 rfl ?_
    first | exact ⟨rfl, by rw [hcR.1]⟩ | (exfalso; omega)
  · refine z_iload_n dX1_priceOf_4 rfl ?_
    refine z_bipush dX1_priceOf_5 (by decide) ?_
    refine z_icmp_ge (tgt := 21) dX1_priceOf_7 (by decide) (by omega) (by omega) (fun c7 => ?_) (fun c7 => ?_)
    · refine z_bipush dX1_priceOf_21 (by decide) ?_
      refine z_iret dX1_priceOf_23 rfl ?_
      first | exact ⟨rfl, by rw [hcR.1]⟩ | (exfalso; omega)
    · have hcR := hR.1 c (by omega) (by omega)
      unfold zRc at hcR
      refine z_iconst dX1_priceOf_10 ?_
      refine z_aload_n dX1_priceOf_11 rfl ?_
      refine z_getR (b := (p + 1)) dX1_priceOf_12 fX1_9 (zP_r0 hp) (zm_sh_p0 hp) rfl rfl ?_
      refine z_iload_n dX1_priceOf_15 rfl ?_
      refine z_iaload dX1_priceOf_16 (zP_r hp 1 (by decide)) (zm_sh_p hp 1 (by decide)) (by omega) (by decide) ?_
      refine z_iadd dX1_priceOf_17 ?_
      refine z_goto (tgt := 23) dX1_priceOf_18 (by decide) ?_
      refine z_iret dX1_priceOf_23 rfl ?_
      first | exact ⟨rfl, by rw [hcR.1]⟩ | (exfalso; omega)

theorem vX1_whyNoHelp {G : zG} {M : zM} {σ : zS} {p k c : Int} (hp : zP p) (hR : zRel M p σ) (hk : 0 ≤ k ∧ k < σ 535) (hc : 0 ≤ c ∧ c < 120) (hI : zI σ) : zCall G yX1_whyNoHelp YX1_whyNoHelp [.inr (some p), .inl k, .inl c] M (fun v M' => M = M' ∧ v = some (.inl (sWhy σ k c))) := by
  refine zEnter (by decide +kernel) rfl (Nat.le_of_ble_eq_true rfl) ?_
  have hs9 := hI.1
  unfold zIs at hs9
  have hR5 := hR.2.2.2.2.2.1
  have hR6 := hR.2.2.2.2.2.2
  have hR4 := hR.2.2.2.2.1
  refine z_iload_n dX1_whyNoHelp_0 rfl ?_
  refine z_if_lt (tgt := 22) dX1_whyNoHelp_1 (by decide) (by omega) (fun c1 => ?_) (fun c1 => ?_)
  · refine z_iconst dX1_whyNoHelp_22 ?_
    refine z_iret dX1_whyNoHelp_23 rfl ?_
    first
      | (exfalso; omega)
      | (refine ⟨rfl, ?_⟩; unfold sWhy; congr 2; repeat' split)
    all_goals first | rfl | omega
  · refine z_iload_n dX1_whyNoHelp_4 rfl ?_
    refine z_aload_n dX1_whyNoHelp_5 rfl ?_
    refine z_getI (kI := 15) dX1_whyNoHelp_6 fX1_67 (zP_r0 hp) (zm_sh_p0 hp) rfl rfl ?_
    refine z_icmp_ge (tgt := 22) dX1_whyNoHelp_9 (by decide) (by omega) (by omega) (fun c9 => ?_) (fun c9 => ?_)
    · refine z_iconst dX1_whyNoHelp_22 ?_
      refine z_iret dX1_whyNoHelp_23 rfl ?_
      first
        | (exfalso; omega)
        | (refine ⟨rfl, ?_⟩; unfold sWhy; congr 2; repeat' split)
      all_goals first | rfl | omega
    · refine z_iload_n dX1_whyNoHelp_12 rfl ?_
      refine z_if_lt (tgt := 22) dX1_whyNoHelp_13 (by decide) (by omega) (fun c13 => ?_) (fun c13 => ?_)
      · refine z_iconst dX1_whyNoHelp_22 ?_
        refine z_iret dX1_whyNoHelp_23 rfl ?_
        first
          | (exfalso; omega)
          | (refine ⟨rfl, ?_⟩; unfold sWhy; congr 2; repeat' split)
        all_goals first | rfl | omega
      · refine z_iload_n dX1_whyNoHelp_16 rfl ?_
        refine z_bipush dX1_whyNoHelp_17 (by decide) ?_
        refine z_icmp_lt (tgt := 24) dX1_whyNoHelp_19 (by decide) (by omega) (by omega) (fun c19 => ?_) (fun c19 => ?_)
        · have hk9 := hI.2.2 k (by omega) (by omega)
          unfold zIk at hk9
          have hkR := hR.2.1 k (by omega) (by omega)
          unfold zRk at hkR
          have hc9 := hI.2.1 c (by omega) (by omega)
          unfold zIc at hc9
          have hcR := hR.1 c (by omega) (by omega)
          unfold zRc at hcR
          refine z_aload_n dX1_whyNoHelp_24 rfl ?_
          refine z_getR (b := (p + 2)) dX1_whyNoHelp_25 fX1_15 (zP_r0 hp) (zm_sh_p0 hp) rfl rfl ?_
          refine z_iload_n dX1_whyNoHelp_28 rfl ?_
          refine z_iaload dX1_whyNoHelp_29 (zP_r hp 2 (by decide)) (zm_sh_p hp 2 (by decide)) (by omega) (by decide) ?_
          refine z_istore_n dX1_whyNoHelp_30 (by decide) ?_
          refine z_iload_n dX1_whyNoHelp_31 rfl ?_
          refine z_bipush dX1_whyNoHelp_32 (by decide) ?_
          refine z_icmp_ne (tgt := 39) dX1_whyNoHelp_34 (by decide) (by omega) (by omega) (fun c34 => ?_) (fun c34 => ?_)
          · refine z_iload_n dX1_whyNoHelp_39 rfl ?_
            refine z_iload_n dX1_whyNoHelp_40 rfl ?_
            refine z_icmp_ne (tgt := 46) dX1_whyNoHelp_41 (by decide) (by omega) (by omega) (fun c41 => ?_) (fun c41 => ?_)
            · refine z_aload_n dX1_whyNoHelp_46 rfl ?_
              refine z_getR (b := (p + 12)) dX1_whyNoHelp_47 fX1_45 (zP_r0 hp) (zm_sh_p0 hp) rfl rfl ?_
              refine z_iload_n dX1_whyNoHelp_50 rfl ?_
              refine z_iaload dX1_whyNoHelp_51 (zP_r hp 12 (by decide)) (zm_sh_p hp 12 (by decide)) (by omega) (by decide) ?_
              refine z_iload_n dX1_whyNoHelp_52 rfl ?_
              refine z_icmp_ne (tgt := 75) dX1_whyNoHelp_53 (by decide) (by omega) (by omega) (fun c53 => ?_) (fun c53 => ?_)
              · refine z_iconst dX1_whyNoHelp_75 ?_
                refine z_istore dX1_whyNoHelp_76 (by decide) ?_
                refine z_iload dX1_whyNoHelp_78 rfl ?_
                refine z_if_eq (tgt := 87) dX1_whyNoHelp_80 (by decide) (by decide) (fun _ => ?_) (fun h => absurd h (by decide))
                refine z_iconst dX1_whyNoHelp_87 ?_
                refine z_iret dX1_whyNoHelp_88 rfl ?_
                first
                  | (exfalso; omega)
                  | (refine ⟨rfl, ?_⟩; unfold sWhy; congr 2; repeat' split)
                all_goals first | rfl | omega
              · refine z_aload_n dX1_whyNoHelp_56 rfl ?_
                refine z_getR (b := (p + 13)) dX1_whyNoHelp_57 fX1_48 (zP_r0 hp) (zm_sh_p0 hp) rfl rfl ?_
                refine z_iload_n dX1_whyNoHelp_60 rfl ?_
                refine z_iaload dX1_whyNoHelp_61 (zP_r hp 13 (by decide)) (zm_sh_p hp 13 (by decide)) (by omega) (by decide) ?_
                refine z_aload_n dX1_whyNoHelp_62 rfl ?_
                refine z_getR (b := (p + 24)) dX1_whyNoHelp_63 fX1_64 (zP_r0 hp) (zm_sh_p0 hp) rfl rfl ?_
                refine z_iconst dX1_whyNoHelp_66 ?_
                refine z_iaload dX1_whyNoHelp_67 (zP_r hp 24 (by decide)) (zm_sh_p hp 24 (by decide)) (by omega) (by decide) ?_
                refine z_icmp_lt (tgt := 75) dX1_whyNoHelp_68 (by decide) (by omega) (by omega) (fun c68 => ?_) (fun c68 => ?_)
                · refine z_iconst dX1_whyNoHelp_75 ?_
                  refine z_istore dX1_whyNoHelp_76 (by decide) ?_
                  refine z_iload dX1_whyNoHelp_78 rfl ?_
                  refine z_if_eq (tgt := 87) dX1_whyNoHelp_80 (by decide) (by decide) (fun _ => ?_) (fun h => absurd h (by decide))
                  refine z_iconst dX1_whyNoHelp_87 ?_
                  refine z_iret dX1_whyNoHelp_88 rfl ?_
                  first
                    | (exfalso; omega)
                    | (refine ⟨rfl, ?_⟩; unfold sWhy; congr 2; repeat' split)
                  all_goals first | rfl | omega
                · refine z_iconst dX1_whyNoHelp_71 ?_
                  refine z_goto (tgt := 76) dX1_whyNoHelp_72 (by decide) ?_
                  refine z_istore dX1_whyNoHelp_76 (by decide) ?_
                  refine z_iload dX1_whyNoHelp_78 rfl ?_
                  refine z_if_eq (tgt := 87) dX1_whyNoHelp_80 (by decide) (by decide) (fun h => absurd h (by decide)) (fun _ => ?_)
                  refine z_iconst dX1_whyNoHelp_83 ?_
                  refine z_goto (tgt := 88) dX1_whyNoHelp_84 (by decide) ?_
                  refine z_iret dX1_whyNoHelp_88 rfl ?_
                  first
                    | (exfalso; omega)
                    | (refine ⟨rfl, ?_⟩; unfold sWhy; congr 2; repeat' split)
                  all_goals first | rfl | omega
            · refine z_iconst dX1_whyNoHelp_44 ?_
              refine z_iret dX1_whyNoHelp_45 rfl ?_
              first
                | (exfalso; omega)
                | (refine ⟨rfl, ?_⟩; unfold sWhy; congr 2; repeat' split)
              all_goals first | rfl | omega
          · refine z_iconst dX1_whyNoHelp_37 ?_
            refine z_iret dX1_whyNoHelp_38 rfl ?_
            first
              | (exfalso; omega)
              | (refine ⟨rfl, ?_⟩; unfold sWhy; congr 2; repeat' split)
            all_goals first | rfl | omega
        · refine z_iconst dX1_whyNoHelp_22 ?_
          refine z_iret dX1_whyNoHelp_23 rfl ?_
          first
            | (exfalso; omega)
            | (refine ⟨rfl, ?_⟩; unfold sWhy; congr 2; repeat' split)
          all_goals first | rfl | omega

theorem vX1_stepCost {G : zG} {M : zM} {σ : zS} {p k step : Int} (hp : zP p) (hR : zRel M p σ) (hk : 0 ≤ k ∧ k < σ 535) (hs : 0 ≤ step ∧ step ≤ 2) (hI : zI σ) : zCall G yX1_stepCost YX1_stepCost [.inr (some p), .inl k, .inl step] M (fun v M' => M = M' ∧ v = some (.inl (sPr σ k step))) := by
  refine zEnter (by decide +kernel) rfl (Nat.le_of_ble_eq_true rfl) ?_
  have hs9 := hI.1
  unfold zIs at hs9
  have hR5 := hR.2.2.2.2.2.1
  have hR6 := hR.2.2.2.2.2.2
  have hR4 := hR.2.2.2.2.1
  refine z_aload_n dX1_stepCost_0 rfl ?_
  refine z_iload_n dX1_stepCost_1 rfl ?_
  refine z_callV mX1_knows (vX1_knows hp hR (by omega) hI) rfl dX1_stepCost_2 kX1_91 (by decide) rfl (by show _ ≤ 8; simp) (zP_r0 hp) (zm_sh_p0 hp) (by decide) rfl (fun v2 M2 q2 => ?_)
  obtain ⟨rfl, b2, rfl, h2⟩ := q2
  try simp only [zpush]
  refine z_if_eq (tgt := 20) dX1_stepCost_5 (by decide) (by omega) (fun c5 => ?_) (fun c5 => ?_)
  · exfalso
    first | omega | (have h3 : ((zm_st 0).2.length : Int) = 3 := rfl; omega)
  · refine z_iload_n dX1_stepCost_8 rfl ?_
    refine z_if_lt (tgt := 20) dX1_stepCost_9 (by decide) (by omega) (fun c9 => ?_) (fun c9 => ?_)
    · exfalso
      first | omega | (have h3 : ((zm_st 0).2.length : Int) = 3 := rfl; omega)
    · refine z_iload_n dX1_stepCost_12 rfl ?_
      refine z_getstN (t := 0) dX1_stepCost_13 (by decide) sX1_128 ?_
      refine z_stlen dX1_stepCost_16 rfl (by decide) ?_
      refine z_icmp_lt (tgt := 23) dX1_stepCost_17 (by decide) (by omega) (by decide) (fun c17 => ?_) (fun c17 => ?_)
      · refine z_aload_n dX1_stepCost_23 rfl ?_
        have hk9 := hI.2.2 k (by omega) (by omega)
        unfold zIk at hk9
        have hkR := hR.2.1 k (by omega) (by omega)
        unfold zRk at hkR
        refine z_getR (b := (p + 4)) dX1_stepCost_24 fX1_21 (zP_r0 hp) (zm_sh_p0 hp) rfl rfl ?_
        refine z_iload_n dX1_stepCost_27 rfl ?_
        refine z_iaload dX1_stepCost_28 (zP_r hp 4 (by decide)) (zm_sh_p hp 4 (by decide)) (by omega) (by decide) ?_
        refine z_getstN (t := 0) dX1_stepCost_29 (by decide) sX1_128 ?_
        refine z_iload_n dX1_stepCost_32 rfl ?_
        refine z_stload (x := sLn 0 step) (t := 0) dX1_stepCost_33 rfl (by decide) (by show _ ∧ _ < (3 : Int); omega) (by rcases (show step = 0 ∨ step = 1 ∨ step = 2 by omega) with h | h | h <;> (rw [h]; rfl)) ?_
        refine z_iadd dX1_stepCost_34 ?_
        rw [hkR.1, sLn_add]
        generalize hx : sLn (σ (360 + 10 * k + 0)) step = x
        have hxr : -1 ≤ x ∧ x ≤ 6 := by rw [← hx]; exact sLn_r (by omega) step
        refine z_istore_n dX1_stepCost_35 (by decide) ?_
        refine z_aload_n dX1_stepCost_36 rfl ?_
        refine z_getR (b := (p + 5)) dX1_stepCost_37 fX1_24 (zP_r0 hp) (zm_sh_p0 hp) rfl rfl ?_
        refine z_iload_n dX1_stepCost_40 rfl ?_
        refine z_iaload dX1_stepCost_41 (zP_r hp 5 (by decide)) (zm_sh_p hp 5 (by decide)) (by omega) (by decide) ?_
        refine z_iconst dX1_stepCost_42 ?_
        refine z_iadd dX1_stepCost_43 ?_
        rw [hkR.2.1]
        refine z_istore dX1_stepCost_44 (by decide) ?_
        refine z_iload_n dX1_stepCost_46 rfl ?_
        refine z_iload dX1_stepCost_47 rfl ?_
        refine z_callSN mX4_cellAt (vX4_cellAt (by omega) (by omega)) rfl dX1_stepCost_49 kX1_98 (by decide) rfl (by show _ ≤ 8; simp) (fun v49 M49 q49 => ?_)
        obtain ⟨rfl, c49, rfl, h49⟩ := q49
        try simp only [zpush]
        refine z_istore dX1_stepCost_52 (by decide) ?_
        refine z_iload dX1_stepCost_54 rfl ?_
        refine z_iconst dX1_stepCost_56 ?_
        refine z_icmp_eq (tgt := 72) dX1_stepCost_57 (by decide) (by omega) (by omega) (fun c57 => ?_) (fun c57 => ?_)
        · refine z_bipush dX1_stepCost_72 (by decide) ?_
          refine z_iret dX1_stepCost_74 rfl ?_
          refine ⟨rfl, ?_⟩
          unfold sPr
          rw [hx]
          congr 2
          repeat' split
          all_goals first | rfl | omega
        · refine z_aload_n dX1_stepCost_60 rfl ?_
          refine z_iload_n dX1_stepCost_61 rfl ?_
          refine z_iload dX1_stepCost_62 rfl ?_
          refine z_callV mX1_snailOn (vX1_snailOn hp hR (by omega) (by omega) hI) rfl dX1_stepCost_64 kX1_84 (by decide) rfl (by show _ ≤ 8; simp) (zP_r0 hp) (zm_sh_p0 hp) (by decide) rfl (fun v64 M64 q64 => ?_)
          obtain ⟨rfl, rfl⟩ := q64
          try simp only [zpush]
          have hor := sOn_r hI x (σ (360 + 10 * k + 1) + 1)
          refine z_bipush dX1_stepCost_67 (by decide) ?_
          refine z_icmp_eq (tgt := 75) dX1_stepCost_69 (by decide) (by omega) (by omega) (fun c69 => ?_) (fun c69 => ?_)
          · have hce : c49 = 6 * (σ (360 + 10 * k + 1) + 1) + x := by omega
            subst hce
            refine z_aload_n dX1_stepCost_75 rfl ?_
            refine z_iload_n dX1_stepCost_76 rfl ?_
            refine z_iload dX1_stepCost_77 rfl ?_
            refine z_callV mX1_whyNoHelp (vX1_whyNoHelp hp hR (by omega) (by omega) hI) rfl dX1_stepCost_79 kX1_144 (by decide) rfl (by show _ ≤ 8; simp) (zP_r0 hp) (zm_sh_p0 hp) (by decide) rfl (fun v79 M79 q79 => ?_)
            obtain ⟨rfl, rfl⟩ := q79
            try simp only [zpush]
            have hwr := sWhy_r σ k (6 * (σ (360 + 10 * k + 1) + 1) + x)
            refine z_istore dX1_stepCost_82 (by decide) ?_
            refine z_iload dX1_stepCost_84 rfl ?_
            refine z_if_eq (tgt := 95) dX1_stepCost_86 (by decide) (by omega) (fun c86 => ?_) (fun c86 => ?_)
            · refine z_iconst dX1_stepCost_95 ?_
              refine z_goto (tgt := 105) dX1_stepCost_96 (by decide) ?_
              refine z_iret dX1_stepCost_105 rfl ?_
              refine ⟨rfl, ?_⟩
              unfold sPr
              rw [hx]
              congr 2
              repeat' split
              all_goals first | rfl | omega
            · refine z_iload dX1_stepCost_89 rfl ?_
              refine z_iconst dX1_stepCost_91 ?_
              refine z_icmp_ne (tgt := 99) dX1_stepCost_92 (by decide) (by omega) (by omega) (fun c92 => ?_) (fun c92 => ?_)
              · refine z_aload_n dX1_stepCost_99 rfl ?_
                refine z_iload dX1_stepCost_100 rfl ?_
                refine z_callV mX1_priceOf (vX1_priceOf hp hR (by omega)) rfl dX1_stepCost_102 kX1_147 (by decide) rfl (by show _ ≤ 8; simp) (zP_r0 hp) (zm_sh_p0 hp) (by decide) rfl (fun v102 M102 q102 => ?_)
                obtain ⟨rfl, rfl⟩ := q102
                try simp only [zpush]
                refine z_iret dX1_stepCost_105 rfl ?_
                refine ⟨rfl, ?_⟩
                unfold sPr
                rw [hx]
                congr 2
                repeat' split
                all_goals first | rfl | omega
              · refine z_iconst dX1_stepCost_95 ?_
                refine z_goto (tgt := 105) dX1_stepCost_96 (by decide) ?_
                refine z_iret dX1_stepCost_105 rfl ?_
                refine ⟨rfl, ?_⟩
                unfold sPr
                rw [hx]
                congr 2
                repeat' split
                all_goals first | rfl | omega
          · refine z_bipush dX1_stepCost_72 (by decide) ?_
            refine z_iret dX1_stepCost_74 rfl ?_
            refine ⟨rfl, ?_⟩
            unfold sPr
            rw [hx]
            congr 2
            repeat' split
            all_goals first | rfl | omega
      · exfalso
        first | omega | (have h3 : ((zm_st 0).2.length : Int) = 3 := rfl; omega)

theorem vX1_choice {G : zG} {M : zM} {σ : zS} {p k : Int} (hp : zP p) (hR : zRel M p σ) (hk : 0 ≤ k ∧ k < σ 535) (hI : zI σ) : zCall G yX1_choice YX1_choice [.inr (some p), .inl k] M (fun v M' => M = M' ∧ v = some (.inl (sCh σ k))) := by
  refine zEnter (by decide +kernel) rfl (Nat.le_of_ble_eq_true rfl) ?_
  have hs9 := hI.1
  unfold zIs at hs9
  have hR5 := hR.2.2.2.2.2.1
  have hR6 := hR.2.2.2.2.2.2
  have hR4 := hR.2.2.2.2.1
  refine z_iconst dX1_choice_0 ?_
  refine z_istore_n dX1_choice_1 (by decide) ?_
  refine z_iconst dX1_choice_2 ?_
  refine z_istore_n dX1_choice_3 (by decide) ?_
  refine z_iconst dX1_choice_4 ?_
  refine z_istore dX1_choice_5 (by decide) ?_
  have L : ∀ (n : Nat) (i : Int) (f : Int) (q : Int), (0 ≤ i ∧ i ≤ 3) → (i + n = 4) → ((f = 4 ∧ q = 0) ∨ ((0 ≤ f ∧ f ≤ 2) ∧ q = sPr σ k f ∧ 1 ≤ q ∧ q ≤ 10)) → (zfor (sCs σ k) i 3 f = sCb σ k) → zW G YX1_choice (fun v M' => M = M' ∧ v = some (.inl (sCh σ k))) 7 [(4, .inl i), (2, .inl f), (3, .inl q), (0, .inr (some p)), (1, .inl k)] [] M := by
    intro n
    induction n with
    | zero => intro i f q hi hin hf he; exfalso; omega
    | succ n ih =>
      intro i f q hi hin hf he
      refine z_iload dX1_choice_7 rfl ?_
      refine z_getstN (t := 0) dX1_choice_9 (by decide) sX1_128 ?_
      refine z_stlen dX1_choice_12 rfl (by decide) ?_
      refine z_icmp_ge (tgt := 55) dX1_choice_13 (by decide) (by omega) (by decide) (fun c13 => ?_) (fun c13 => ?_)
      · have h3 : ((zm_st 0).2.length : Int) = 3 := rfl
        rw [zfor_end (by omega)] at he
        have hk9 := hI.2.2 k (by omega) (by omega)
        unfold zIk at hk9
        have hkR := hR.2.1 k (by omega) (by omega)
        unfold zRk at hkR
        refine z_aload_n dX1_choice_55 rfl ?_
        refine z_iload_n dX1_choice_56 rfl ?_
        refine z_callV mX1_knows (vX1_knows hp hR (by omega) hI) rfl dX1_choice_57 kX1_91 (by decide) rfl (by show _ ≤ 8; simp) (zP_r0 hp) (zm_sh_p0 hp) (by decide) rfl (fun v57 M57 q57 => ?_)
        obtain ⟨rfl, b57, rfl, h57⟩ := q57
        try simp only [zpush]
        refine z_if_eq (tgt := 77) dX1_choice_60 (by decide) (by omega) (fun c60 => ?_) (fun c60 => ?_)
        · refine z_iload_n dX1_choice_77 rfl ?_
          refine z_iret dX1_choice_78 rfl ?_
          refine ⟨rfl, ?_⟩
          unfold sCh
          rw [← he]
          congr 2
          repeat' split
          all_goals first | rfl | omega
        · refine z_iload_n dX1_choice_63 rfl ?_
          refine z_aload_n dX1_choice_64 rfl ?_
          refine z_getR (b := (p + 6)) dX1_choice_65 fX1_27 (zP_r0 hp) (zm_sh_p0 hp) rfl rfl ?_
          refine z_iload_n dX1_choice_68 rfl ?_
          refine z_iaload dX1_choice_69 (zP_r hp 6 (by decide)) (zm_sh_p hp 6 (by decide)) (by omega) (by decide) ?_
          refine z_icmp_le (tgt := 77) dX1_choice_70 (by decide) (by omega) (by omega) (fun c70 => ?_) (fun c70 => ?_)
          · refine z_iload_n dX1_choice_77 rfl ?_
            refine z_iret dX1_choice_78 rfl ?_
            refine ⟨rfl, ?_⟩
            unfold sCh
            rw [← he]
            congr 2
            repeat' split
            all_goals first | rfl | omega
          · refine z_iconst dX1_choice_73 ?_
            refine z_goto (tgt := 78) dX1_choice_74 (by decide) ?_
            refine z_iret dX1_choice_78 rfl ?_
            refine ⟨rfl, ?_⟩
            unfold sCh
            rw [← he]
            congr 2
            repeat' split
            all_goals first | rfl | omega
      · have h3 : ((zm_st 0).2.length : Int) = 3 := rfl
        have hpi := sPr_r hI (k := k) (by omega) i
        have hpf := sPr_r hI (k := k) (by omega) f
        rw [zfor_step (by omega)] at he
        refine z_aload_n dX1_choice_16 rfl ?_
        refine z_iload_n dX1_choice_17 rfl ?_
        refine z_iload dX1_choice_18 rfl ?_
        refine z_callV mX1_stepCost (vX1_stepCost hp hR (by omega) (by omega) hI) rfl dX1_choice_20 kX1_141 (by decide) rfl (by show _ ≤ 8; simp) (zP_r0 hp) (zm_sh_p0 hp) (by decide) rfl (fun v20 M20 q20 => ?_)
        obtain ⟨rfl, rfl⟩ := q20
        try simp only [zpush]
        refine z_istore dX1_choice_23 (by decide) ?_
        refine z_iload dX1_choice_25 rfl ?_
        refine z_bipush dX1_choice_27 (by decide) ?_
        refine z_icmp_eq (tgt := 49) dX1_choice_29 (by decide) (by omega) (by omega) (fun c29 => ?_) (fun c29 => ?_)
        · refine z_iinc dX1_choice_49 rfl (by decide) ?_
          refine z_goto (tgt := 7) dX1_choice_52 (by decide) ?_
          first
            | (rw [show sCs σ k i f = i from by unfold sCs; rw [if_pos (by omega)]] at he; exact zsub' (ih (i + 1) i _ (by omega) (by omega) (Or.inr ⟨by omega, rfl, by omega, by omega⟩) he) ⟨rfl, rfl, rfl, rfl, rfl, trivial⟩)
            | (rw [show sCs σ k i f = f from by unfold sCs; rw [if_neg (by omega)]] at he; exact zsub' (ih (i + 1) f q (by omega) (by omega) hf he) ⟨rfl, rfl, rfl, rfl, rfl, trivial⟩)
        · refine z_iload_n dX1_choice_32 rfl ?_
          refine z_iconst dX1_choice_33 ?_
          refine z_icmp_eq (tgt := 43) dX1_choice_34 (by decide) (by omega) (by omega) (fun c34 => ?_) (fun c34 => ?_)
          · refine z_iload dX1_choice_43 rfl ?_
            refine z_istore_n dX1_choice_45 (by decide) ?_
            refine z_iload dX1_choice_46 rfl ?_
            refine z_istore_n dX1_choice_48 (by decide) ?_
            refine z_iinc dX1_choice_49 rfl (by decide) ?_
            refine z_goto (tgt := 7) dX1_choice_52 (by decide) ?_
            first
              | (rw [show sCs σ k i f = i from by unfold sCs; rw [if_pos (by omega)]] at he; exact zsub' (ih (i + 1) i _ (by omega) (by omega) (Or.inr ⟨by omega, rfl, by omega, by omega⟩) he) ⟨rfl, rfl, rfl, rfl, rfl, trivial⟩)
              | (rw [show sCs σ k i f = f from by unfold sCs; rw [if_neg (by omega)]] at he; exact zsub' (ih (i + 1) f q (by omega) (by omega) hf he) ⟨rfl, rfl, rfl, rfl, rfl, trivial⟩)
          · refine z_iload dX1_choice_37 rfl ?_
            refine z_iload_n dX1_choice_39 rfl ?_
            refine z_icmp_ge (tgt := 49) dX1_choice_40 (by decide) (by omega) (by omega) (fun c40 => ?_) (fun c40 => ?_)
            · refine z_iinc dX1_choice_49 rfl (by decide) ?_
              refine z_goto (tgt := 7) dX1_choice_52 (by decide) ?_
              first
                | (rw [show sCs σ k i f = i from by unfold sCs; rw [if_pos (by omega)]] at he; exact zsub' (ih (i + 1) i _ (by omega) (by omega) (Or.inr ⟨by omega, rfl, by omega, by omega⟩) he) ⟨rfl, rfl, rfl, rfl, rfl, trivial⟩)
                | (rw [show sCs σ k i f = f from by unfold sCs; rw [if_neg (by omega)]] at he; exact zsub' (ih (i + 1) f q (by omega) (by omega) hf he) ⟨rfl, rfl, rfl, rfl, rfl, trivial⟩)
            · refine z_iload dX1_choice_43 rfl ?_
              refine z_istore_n dX1_choice_45 (by decide) ?_
              refine z_iload dX1_choice_46 rfl ?_
              refine z_istore_n dX1_choice_48 (by decide) ?_
              refine z_iinc dX1_choice_49 rfl (by decide) ?_
              refine z_goto (tgt := 7) dX1_choice_52 (by decide) ?_
              first
                | (rw [show sCs σ k i f = i from by unfold sCs; rw [if_pos (by omega)]] at he; exact zsub' (ih (i + 1) i _ (by omega) (by omega) (Or.inr ⟨by omega, rfl, by omega, by omega⟩) he) ⟨rfl, rfl, rfl, rfl, rfl, trivial⟩)
                | (rw [show sCs σ k i f = f from by unfold sCs; rw [if_neg (by omega)]] at he; exact zsub' (ih (i + 1) f q (by omega) (by omega) hf he) ⟨rfl, rfl, rfl, rfl, rfl, trivial⟩)
  exact zsub' (L 4 0 4 0 (by omega) (by omega) (by omega) rfl) ⟨rfl, rfl, rfl, rfl, rfl, trivial⟩

