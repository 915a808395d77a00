theorem vX5_putAside {G : zG} {M : zM} {σ : zS}  : zCall G yX5_putAside YX5_putAside [.inr (some 187)] (zt M σ) (fun v M' => v = none ∧ ∃ M1 : zM, M' = zt M1 σ ∧ (∀ a : Int, a ≠ 189 → M1 a = M a) ∧ ∀ j : Int, 0 ≤ j → j < 538 → M1 189 j = σ j) := by
  refine zEnter (by decide +kernel) rfl (Nat.le_of_ble_eq_true rfl) ?_
  refine z_iconst dX5_putAside_0 ?_
  refine z_istore_n dX5_putAside_1 (by decide) ?_
  have L : ∀ (n : Nat) (c : Int) (N : zM), (0 ≤ c ∧ c ≤ 538) → (c + n = 539) → (∀ a : Int, a ≠ 189 → N a = M a) → (∀ j : Int, 0 ≤ j → j < c → N 189 j = σ j) → zW G YX5_putAside (fun v M' => v = none ∧ ∃ M1 : zM, M' = zt M1 σ ∧ (∀ a : Int, a ≠ 189 → M1 a = M a) ∧ ∀ j : Int, 0 ≤ j → j < 538 → M1 189 j = σ j) 2 [(1, .inl c), (0, .inr (some 187))] [] (zt N σ) := by
    intro n
    induction n with
    | zero => intro c N hc hcn h1 h2; exfalso; omega
    | succ n ih =>
      intro c N hc hcn h1 h2
      refine z_iload_n dX5_putAside_2 rfl ?_
      refine z_sipush dX5_putAside_3 (by decide) ?_
      refine z_icmp_ge (tgt := 27) dX5_putAside_6 (by decide) (by omega) (by omega) (fun c6 => ?_) (fun c6 => ?_)
      · refine z_vret dX5_putAside_27 rfl ?_
        exact ⟨rfl, N, rfl, h1, fun j q1 q2 => h2 j q1 (by omega)⟩
      · refine z_aload_n dX5_putAside_9 rfl ?_
        refine z_getR (b := 189) dX5_putAside_10 fX5_13 (by decide) zsh187 rfl rfl ?_
        refine z_iload_n dX5_putAside_13 rfl ?_
        refine z_aload_n dX5_putAside_14 rfl ?_
        refine z_getR (b := 188) dX5_putAside_15 fX5_7 (by decide) zsh187 rfl rfl ?_
        refine z_iload_n dX5_putAside_18 rfl ?_
        refine z_sload dX5_putAside_19 (by omega) ?_
        refine z_ostore dX5_putAside_20 (by decide) (by decide) (zsh189) (by omega) (by decide) (fun N20 hN20 => ?_)
        refine z_iinc dX5_putAside_21 rfl (by decide) ?_
        refine z_goto (tgt := 2) dX5_putAside_24 (by decide) ?_
        exact zsub' (ih (c + 1) N20 (by omega) (by omega) (fun a ha => by rw [hN20, zm_up_off ha]; exact h1 a ha) (fun j q1 q2 => if hj : j = c then (by rw [hN20, hj]; exact zm_up_at) else (by rw [hN20, zm_up_ne hj]; exact h2 j q1 (by omega)))) ⟨rfl, rfl, trivial⟩
  exact zsub' (L 539 0 M (by omega) (by omega) (fun _ _ => rfl) (fun j q1 q2 => by omega)) ⟨rfl, rfl, trivial⟩

theorem vX5_putBack {G : zG} {M : zM} {σ : zS}  : zCall G yX5_putBack YX5_putBack [.inr (some 187)] (zt M σ) (fun v M' => v = none ∧ ∃ σ' : zS, M' = zt M σ' ∧ (∀ j : Int, 0 ≤ j → j < 538 → σ' j = M 189 j) ∧ zo σ σ') := by
  refine zEnter (by decide +kernel) rfl (Nat.le_of_ble_eq_true rfl) ?_
  refine z_iconst dX5_putBack_0 ?_
  refine z_istore_n dX5_putBack_1 (by decide) ?_
  have L : ∀ (n : Nat) (c : Int) (τ : zS), (0 ≤ c ∧ c ≤ 538) → (c + n = 539) → (∀ j : Int, 0 ≤ j → j < c → τ j = M 189 j) → (zo σ τ) → zW G YX5_putBack (fun v M' => v = none ∧ ∃ σ' : zS, M' = zt M σ' ∧ (∀ j : Int, 0 ≤ j → j < 538 → σ' j = M 189 j) ∧ zo σ σ') 2 [(1, .inl c), (0, .inr (some 187))] [] (zt M τ) := by
    intro n
    induction n with
    | zero => intro c τ hc hcn h2 h3; exfalso; omega
    | succ n ih =>
      intro c τ hc hcn h2 h3
      refine z_iload_n dX5_putBack_2 rfl ?_
      refine z_sipush dX5_putBack_3 (by decide) ?_
      refine z_icmp_ge (tgt := 27) dX5_putBack_6 (by decide) (by omega) (by omega) (fun c6 => ?_) (fun c6 => ?_)
      · refine z_vret dX5_putBack_27 rfl ?_
        exact ⟨rfl, τ, rfl, fun j q1 q2 => h2 j q1 (by omega), h3⟩
      · refine z_aload_n dX5_putBack_9 rfl ?_
        refine z_getR (b := 188) dX5_putBack_10 fX5_7 (by decide) zsh187 rfl rfl ?_
        refine z_iload_n dX5_putBack_13 rfl ?_
        refine z_aload_n dX5_putBack_14 rfl ?_
        refine z_getR (b := 189) dX5_putBack_15 fX5_13 (by decide) zsh187 rfl rfl ?_
        refine z_iload_n dX5_putBack_18 rfl ?_
        refine z_oload dX5_putBack_19 (by decide) (by decide) (zsh189) (by omega) (by decide) ?_
        refine z_sstore dX5_putBack_20 (by omega) (fun σ20 hσ20 => ?_)
        refine z_iinc dX5_putBack_21 rfl (by decide) ?_
        refine z_goto (tgt := 2) dX5_putBack_24 (by decide) ?_
        exact zsub' (ih (c + 1) σ20 (by omega) (by omega) (fun j q1 q2 => if hj : j = c then (by rw [hσ20, hj]; exact zu_at) else (by rw [hσ20, zu_ne hj]; exact h2 j q1 (by omega))) (h3.tr (by rw [hσ20]; exact zo_zu (by omega)))) ⟨rfl, rfl, trivial⟩
  exact zsub' (L 539 0 σ (by omega) (by omega) (fun j q1 q2 => by omega) (zo.rf σ)) ⟨rfl, rfl, trivial⟩

theorem vX5_records {G : zG} {M : zM} {σ : zS} (hp : 0 ≤ M 187 3 ∧ M 187 3 ≤ 4) : zCall G yX5_records YX5_records [.inr (some 187)] (zt M σ) (fun v M' => v = none ∧ ∃ N : zM, M' = zt N σ ∧ zRec M σ N) := by
  refine zEnter (by decide +kernel) rfl (Nat.le_of_ble_eq_true rfl) ?_
  refine z_aload_n dX5_records_0 rfl ?_
  refine z_oget (kI := 3) dX5_records_1 fX5_44 (by decide) (by decide) zsh187 rfl rfl ?_
  have J : ∀ N : zM, (0 ≤ N 187 3 ∧ N 187 3 ≤ 3) → (∀ N' : zM, zRecA N σ N' → zRec M σ N') → zW G YX5_records (fun v M' => v = none ∧ ∃ N : zM, M' = zt N σ ∧ zRec M σ N) 49 [(0, .inr (some 187))] [] (zt N σ) := by
    intro N hp hQ
    refine z_iconst dX5_records_49 ?_
    refine z_istore_n dX5_records_50 (by decide) ?_
    have L : ∀ (n : Nat) (c : Int) (N1 : zM), (0 ≤ c ∧ c ≤ 538) → (c + n = 539) → (∀ a : Int, a ≠ 190 → N1 a = N a) → (∀ j : Int, 0 ≤ j → j < c → N1 190 (538 * N 187 3 + j) = σ j) → (∀ j : Int, (j < 538 * N 187 3 ∨ 538 * N 187 3 + c ≤ j) → N1 190 j = N 190 j) → zW G YX5_records (fun v M' => v = none ∧ ∃ N : zM, M' = zt N σ ∧ zRec M σ N) 51 [(1, .inl c), (0, .inr (some 187))] [] (zt N1 σ) := by
      intro n
      induction n with
      | zero => intro c N1 hc hcn h1 h2 h3; exfalso; omega
      | succ n ih =>
        intro c N1 hc hcn h1 h2 h3
        refine z_iload_n dX5_records_51 rfl ?_
        refine z_sipush dX5_records_52 (by decide) ?_
        refine z_icmp_ge (tgt := 85) dX5_records_55 (by decide) (by omega) (by omega) (fun c55 => ?_) (fun c55 => ?_)
        · refine z_aload_n dX5_records_85 rfl ?_
          refine z_dup dX5_records_86 ?_
          refine z_oget (kI := 3) dX5_records_87 fX5_44 (by decide) (by decide) zsh187 rfl rfl ?_
          refine z_iconst dX5_records_90 ?_
          refine z_iadd dX5_records_91 ?_
          refine z_oput (kI := 3) dX5_records_92 fX5_44 rfl (Or.inl rfl) (by decide) (by decide) zsh187 rfl rfl (fun N92 hN92 => ?_)
          refine z_vret dX5_records_95 rfl ?_
          exact ⟨rfl, N92, rfl, hQ N92 ⟨fun a q1 q2 => by rw [hN92, zm_up_off q2]; exact h1 a q1, fun j q => by rw [hN92, zm_up_ne q, h1 187 (by decide)], by rw [hN92, ← h1 187 (by decide)]; exact zm_up_at, fun j q => by rw [hN92, zm_up_off (by decide)]; exact h3 j (by omega), fun j q1 q2 => by rw [hN92, zm_up_off (by decide)]; exact h2 j q1 (by omega)⟩⟩
        · have hp1 : N1 187 3 = N 187 3 := by rw [h1 187 (by decide)]
          refine z_aload_n dX5_records_58 rfl ?_
          refine z_getR (b := 190) dX5_records_59 fX5_16 (by decide) zsh187 rfl rfl ?_
          refine z_sipush dX5_records_62 (by decide) ?_
          refine z_aload_n dX5_records_65 rfl ?_
          refine z_oget (kI := 3) dX5_records_66 fX5_44 (by decide) (by decide) zsh187 rfl rfl ?_
          refine z_imul dX5_records_69 ?_
          refine z_iload_n dX5_records_70 rfl ?_
          refine z_iadd dX5_records_71 ?_
          refine z_aload_n dX5_records_72 rfl ?_
          refine z_getR (b := 188) dX5_records_73 fX5_7 (by decide) zsh187 rfl rfl ?_
          refine z_iload_n dX5_records_76 rfl ?_
          refine z_sload dX5_records_77 (by omega) ?_
          refine z_ostore dX5_records_78 (by decide) (by decide) (zsh190) (by omega) (by decide) (fun N78 hN78 => ?_)
          refine z_iinc dX5_records_79 rfl (by decide) ?_
          refine z_goto (tgt := 51) dX5_records_82 (by decide) ?_
          exact zsub' (ih (c + 1) N78 (by omega) (by omega) (fun a ha => by rw [hN78, zm_up_off ha]; exact h1 a ha) (fun j q1 q2 => if hj : j = c then (by rw [hN78, hp1, hj]; exact zm_up_at) else (by rw [hN78, hp1, zm_up_ne (by omega)]; exact h2 j q1 (by omega))) (fun j q => by rw [hN78, hp1, zm_up_ne (by omega)]; exact h3 j (by omega))) ⟨rfl, rfl, trivial⟩
    exact zsub' (L 539 0 N (by omega) (by omega) (fun _ _ => rfl) (fun j q1 q2 => by omega) (fun _ _ => rfl)) ⟨rfl, rfl, trivial⟩
  refine z_iconst dX5_records_4 ?_
  refine z_icmp_ne (tgt := 49) dX5_records_5 (by decide) (by omega) (by omega) (fun c5 => ?_) (fun c5 => ?_)
  · first
      | exact zsub' (J N46 (by rw [hN46, zm_up_at, h1 187 (by decide)]; omega) (fun N' hN' => by unfold zRec; rw [if_pos (by omega)]; exact ⟨N46, fun a q1 q2 => by rw [hN46, zm_up_off q2]; exact h1 a q1, fun j q => by rw [hN46, zm_up_ne q, h1 187 (by decide)], by rw [hN46, zm_up_at, h1 187 (by decide)]; omega, fun j q1 q2 => by rw [hN46, zm_up_off (by decide)]; exact h2 j q1 (by omega), hN'⟩)) ⟨rfl, trivial⟩
      | exact zsub' (J M (by omega) (fun N' hN' => by unfold zRec; rw [if_neg (by omega)]; exact hN')) ⟨rfl, trivial⟩
  · refine z_iconst dX5_records_8 ?_
    refine z_istore_n dX5_records_9 (by decide) ?_
    have L : ∀ (n : Nat) (c : Int) (N : zM), (0 ≤ c ∧ c ≤ 1614) → (c + n = 1615) → (∀ a : Int, a ≠ 190 → N a = M a) → (∀ j : Int, 0 ≤ j → j < c → N 190 j = M 190 (538 + j)) → (∀ j : Int, c ≤ j → N 190 j = M 190 j) → zW G YX5_records (fun v M' => v = none ∧ ∃ N : zM, M' = zt N σ ∧ zRec M σ N) 10 [(1, .inl c), (0, .inr (some 187))] [] (zt N σ) := by
      intro n
      induction n with
      | zero => intro c N hc hcn h1 h2 h3; exfalso; omega
      | succ n ih =>
        intro c N hc hcn h1 h2 h3
        refine z_iload_n dX5_records_10 rfl ?_
        refine z_sipush dX5_records_11 (by decide) ?_
        refine z_icmp_ge (tgt := 39) dX5_records_14 (by decide) (by omega) (by omega) (fun c14 => ?_) (fun c14 => ?_)
        · refine z_aload_n dX5_records_39 rfl ?_
          refine z_dup dX5_records_40 ?_
          refine z_oget (kI := 3) dX5_records_41 fX5_44 (by decide) (by decide) zsh187 rfl rfl ?_
          refine z_iconst dX5_records_44 ?_
          refine z_isub dX5_records_45 ?_
          refine z_oput (kI := 3) dX5_records_46 fX5_44 rfl (Or.inl rfl) (by decide) (by decide) zsh187 rfl rfl (fun N46 hN46 => ?_)
          first
            | exact zsub' (J N46 (by rw [hN46, zm_up_at, h1 187 (by decide)]; omega) (fun N' hN' => by unfold zRec; rw [if_pos (by omega)]; exact ⟨N46, fun a q1 q2 => by rw [hN46, zm_up_off q2]; exact h1 a q1, fun j q => by rw [hN46, zm_up_ne q, h1 187 (by decide)], by rw [hN46, zm_up_at, h1 187 (by decide)]; omega, fun j q1 q2 => by rw [hN46, zm_up_off (by decide)]; exact h2 j q1 (by omega), hN'⟩)) ⟨rfl, trivial⟩
            | exact zsub' (J M (by omega) (fun N' hN' => by unfold zRec; rw [if_neg (by omega)]; exact hN')) ⟨rfl, trivial⟩
        · refine z_aload_n dX5_records_17 rfl ?_
          refine z_getR (b := 190) dX5_records_18 fX5_16 (by decide) zsh187 rfl rfl ?_
          refine z_iload_n dX5_records_21 rfl ?_
          refine z_aload_n dX5_records_22 rfl ?_
          refine z_getR (b := 190) dX5_records_23 fX5_16 (by decide) zsh187 rfl rfl ?_
          refine z_sipush dX5_records_26 (by decide) ?_
          refine z_iload_n dX5_records_29 rfl ?_
          refine z_iadd dX5_records_30 ?_
          refine z_oload dX5_records_31 (by decide) (by decide) (zsh190) (by omega) (by decide) ?_
          refine z_ostore dX5_records_32 (by decide) (by decide) (zsh190) (by omega) (by decide) (fun N32 hN32 => ?_)
          refine z_iinc dX5_records_33 rfl (by decide) ?_
          refine z_goto (tgt := 10) dX5_records_36 (by decide) ?_
          exact zsub' (ih (c + 1) N32 (by omega) (by omega) (fun a ha => by rw [hN32, zm_up_off ha]; exact h1 a ha) (fun j q1 q2 => if hj : j = c then (by rw [hN32, hj, zm_up_at]; exact h3 _ (by omega)) else (by rw [hN32, zm_up_ne hj]; exact h2 j q1 (by omega))) (fun j q => by rw [hN32, zm_up_ne (by omega)]; exact h3 j (by omega))) ⟨rfl, rfl, trivial⟩
    exact zsub' (L 1615 0 M (by omega) (by omega) (fun _ _ => rfl) (fun j q1 q2 => by omega) (fun _ _ => rfl)) ⟨rfl, rfl, trivial⟩
