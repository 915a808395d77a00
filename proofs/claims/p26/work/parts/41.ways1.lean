/-! ===== ways up ===== -/
def zU (σ : zS) (c : Int) : Int := sWayN σ (19 - c / 6).toNat (c % 6)
theorem zU_e (σ : zS) {r l : Int} (hl : 0 ≤ l ∧ l ≤ 5) : zU σ (6 * r + l) = sWayN σ (19 - r).toNat l := by
  unfold zU
  rw [show (6 * r + l) / 6 = r by omega, show (6 * r + l) % 6 = l by omega]
theorem zU_r {σ : zS} (hI : zI σ) {c : Int} (hc : 0 ≤ c ∧ c < 120) : 0 ≤ zU σ c ∧ zU σ c ≤ 190 := by
  have := sWayN_r hI (19 - c / 6).toNat (c % 6) (by omega) (by omega) (by omega)
  unfold zU
  omega
theorem zU_19 (σ : zS) {c : Int} (hc : 114 ≤ c ∧ c < 120) : zU σ c = 0 := by
  unfold zU
  rw [show (19 - c / 6).toNat = 0 by omega]
  rfl
theorem zU_st (σ : zS) {c : Int} (hc : 0 ≤ c ∧ c < 114) : zU σ c = sWayR σ (sWayN σ (18 - c / 6).toNat) (c / 6) (c % 6) := by
  unfold zU
  exact sWayN_step σ (by omega)

theorem vX3_leastAbove {G : zG} {M : zM} {σ : zS} {p lane row : Int} {u : Int → Int} (hp : zP p) (hR : zRel M p σ) (hI : zI σ) (hl : 0 ≤ lane ∧ lane ≤ 5) (hr : 0 ≤ row ∧ row ≤ 18) (hu : ∀ x : Int, 0 ≤ x → x ≤ 5 → M 185 (6 * (row + 1) + x) = u x) (hub : ∀ x : Int, 0 ≤ x → x ≤ 5 → 0 ≤ u x ∧ u x ≤ 1000) : zCall G yX3_leastAbove YX3_leastAbove [.inr (some 184), .inr (some p), .inl lane, .inl row] M (fun v M' => M = M' ∧ v = some (.inl (sWayR σ u row lane))) := by
  refine zEnter (by decide +kernel) rfl (Nat.le_of_ble_eq_true rfl) ?_
  refine z_ldc (n := 1000000) dX3_leastAbove_0 qX3_26 ?_
  refine z_istore dX3_leastAbove_2 (by decide) ?_
  refine z_getstN (t := 0) dX3_leastAbove_4 (by decide) sX3_27 ?_
  refine z_astore dX3_leastAbove_7 (by decide) ?_
  refine z_aload dX3_leastAbove_9 rfl ?_
  refine z_stlen dX3_leastAbove_11 rfl (by decide) ?_
  refine z_istore dX3_leastAbove_12 (by decide) ?_
  refine z_iconst dX3_leastAbove_14 ?_
  refine z_istore dX3_leastAbove_15 (by decide) ?_
  have L : ∀ (n : Nat) (i : Int) (x : Int) (f : Int), (0 ≤ i ∧ i ≤ 3) → (i + n = 4) → ((i = 0 ∧ x = 1000000 ∧ f = -5) ∨ (1 ≤ i ∧ x = f ∧ 1 ≤ f ∧ f ≤ 1010)) → (zfor (sWayF σ u row lane) i 3 f = sWayR σ u row lane) → zW G YX3_leastAbove (fun v M' => M = M' ∧ v = some (.inl (sWayR σ u row lane))) 17 [(7, .inl i), (4, .inl x), (0, .inr (some 184)), (1, .inr (some p)), (2, .inl lane), (3, .inl row), (5, .inr (some (1000 + ((0 : Nat) : Int)))), (6, .inl ((zm_st 0).2.length : Int))] [] M := by
    intro n
    induction n with
    | zero => intro i x f hi hin hf he; exfalso; omega
    | succ n ih =>
      intro i x f hi hin hf he
      refine z_iload dX3_leastAbove_17 rfl ?_
      refine z_iload dX3_leastAbove_19 rfl ?_
      refine z_icmp_ge (tgt := 76) dX3_leastAbove_21 (by decide) (by omega) (by decide) (fun c21 => ?_) (fun c21 => ?_)
      · have h3 : ((zm_st 0).2.length : Int) = 3 := rfl
        rw [zfor_end (by omega)] at he
        refine z_iload dX3_leastAbove_76 rfl ?_
        refine z_iret dX3_leastAbove_78 rfl ?_
        exact ⟨rfl, by rw [← he]; congr 2; omega⟩
      · have h3 : ((zm_st 0).2.length : Int) = 3 := rfl
        refine z_aload dX3_leastAbove_24 rfl ?_
        refine z_iload dX3_leastAbove_26 rfl ?_
        refine z_stload (x := sLn 0 i) (t := 0) dX3_leastAbove_28 rfl (by decide) (by show _ ∧ _ < (3 : Int); omega) (by rcases (show i = 0 ∨ i = 1 ∨ i = 2 by omega) with h | h | h <;> (rw [h]; rfl)) ?_
        refine z_istore dX3_leastAbove_29 (by decide) ?_
        have hsr := sLn_r hl i
        refine z_iload_n dX3_leastAbove_31 rfl ?_
        refine z_iload dX3_leastAbove_32 rfl ?_
        refine z_iadd dX3_leastAbove_34 ?_
        rw [sLn_add]
        refine z_iload_n dX3_leastAbove_35 rfl ?_
        refine z_iconst dX3_leastAbove_36 ?_
        refine z_iadd dX3_leastAbove_37 ?_
        refine z_callSN mX4_cellAt (vX4_cellAt (by omega) (by omega)) rfl dX3_leastAbove_38 kX3_18 (by decide) rfl (by show _ ≤ 8; simp) (fun v38 M38 q38 => ?_)
        obtain ⟨rfl, c38, rfl, h38⟩ := q38
        try simp only [zpush]
        refine z_istore dX3_leastAbove_41 (by decide) ?_
        refine z_iload dX3_leastAbove_43 rfl ?_
        refine z_iconst dX3_leastAbove_45 ?_
        refine z_icmp_eq (tgt := 70) dX3_leastAbove_46 (by decide) (by omega) (by omega) (fun c46 => ?_) (fun c46 => ?_)
        · refine z_iinc dX3_leastAbove_70 rfl (by decide) ?_
          refine z_goto (tgt := 17) dX3_leastAbove_73 (by decide) ?_
          refine zsub' (ih (i + 1) _ (sWayF σ u row lane i f) (by omega) (by omega) ?_ (by rw [zfor_step (by omega)] at he; exact he)) ⟨rfl, rfl, rfl, rfl, rfl, rfl, rfl, rfl, trivial⟩
          have e0 : i = 0 → sLn lane i = lane := fun q => by rw [q]; unfold sLn; rw [if_pos rfl]
          unfold sWayF
          split
          · first
            | (exfalso; omega)
            | (have hux := hu (sLn lane i) (by omega) (by omega); have hub := hub (sLn lane i) (by omega) (by omega); rw [hc38] at hcR ⊢; omega)
          · first
            | omega
            | (have hux := hu (sLn lane i) (by omega) (by omega); have hub := hub (sLn lane i) (by omega) (by omega); rw [hc38] at hcR ⊢; omega)
        · have hc38 : c38 = 6 * (row + 1) + sLn lane i := by omega
          have hcR := hI.2.1 c38 (by omega) (by omega)
          unfold zIc at hcR
          have hux0 := hu (sLn lane i) (by omega) (by omega)
          rw [← hc38] at hux0
          have hub0 := hub (sLn lane i) (by omega) (by omega)
          refine z_iload dX3_leastAbove_49 rfl ?_
          refine z_aload_n dX3_leastAbove_51 rfl ?_
          refine z_iload dX3_leastAbove_52 rfl ?_
          refine z_callV mX1_priceOf (vX1_priceOf hp hR (by omega)) rfl dX3_leastAbove_54 kX3_30 (by decide) rfl (by show _ ≤ 8; simp) (zP_r0 hp) (zm_sh_p0 hp) (by decide) rfl (fun v54 M54 q54 => ?_)
          obtain ⟨rfl, rfl⟩ := q54
          try simp only [zpush]
          refine z_aload_n dX3_leastAbove_57 rfl ?_
          refine z_getR (b := 185) dX3_leastAbove_58 fX3_9 (by decide) (zsh184) rfl rfl ?_
          refine z_iload dX3_leastAbove_61 rfl ?_
          refine z_iaload dX3_leastAbove_63 (by decide) (zsh185) (by omega) (by decide) ?_
          refine z_iadd dX3_leastAbove_64 ?_
          refine z_min dX3_leastAbove_65 kX3_36 pMinS pMinI pMinC (by decide) (Nat.le_of_ble_eq_true rfl) (by omega) (by omega) ?_
          refine z_istore dX3_leastAbove_68 (by decide) ?_
          refine z_iinc dX3_leastAbove_70 rfl (by decide) ?_
          refine z_goto (tgt := 17) dX3_leastAbove_73 (by decide) ?_
          refine zsub' (ih (i + 1) _ (sWayF σ u row lane i f) (by omega) (by omega) ?_ (by rw [zfor_step (by omega)] at he; exact he)) ⟨rfl, rfl, rfl, rfl, rfl, rfl, rfl, rfl, trivial⟩
          have e0 : i = 0 → sLn lane i = lane := fun q => by rw [q]; unfold sLn; rw [if_pos rfl]
          unfold sWayF
          split
          · first
            | (exfalso; omega)
            | (have hux := hu (sLn lane i) (by omega) (by omega); have hub := hub (sLn lane i) (by omega) (by omega); rw [hc38] at hcR ⊢; omega)
          · first
            | omega
            | (have hux := hu (sLn lane i) (by omega) (by omega); have hub := hub (sLn lane i) (by omega) (by omega); rw [hc38] at hcR ⊢; omega)
  exact zsub' (L 4 0 1000000 (-5) (by omega) (by omega) (by omega) rfl) ⟨rfl, rfl, rfl, rfl, rfl, rfl, rfl, rfl, trivial⟩

theorem vX3_fromRimDown {G : zG} {M : zM} {σ : zS} {p lane row : Int} (hp : zP p) (hR : zRel M p σ) (hI : zI σ) (hl : 0 ≤ lane ∧ lane ≤ 5) (hr : 0 ≤ row ∧ row ≤ 19) : zCall G yX3_fromRimDown YX3_fromRimDown [.inr (some 184), .inr (some p), .inl lane, .inl row] M (fun v M' => v = some (.inl (zU σ (6 * row + lane))) ∧ ∀ a : Int, a ≠ 185 → M' a = M a) := by
  refine zEnter (by decide +kernel) rfl (Nat.le_of_ble_eq_true rfl) ?_
  refine z_iload_n dX3_fromRimDown_0 rfl ?_
  refine z_iload_n dX3_fromRimDown_1 rfl ?_
  refine z_callSN mX4_cellAt (vX4_cellAt (by omega) (by omega)) rfl dX3_fromRimDown_2 kX3_18 (by decide) rfl (by show _ ≤ 8; simp) (fun v2 M2 q2 => ?_)
  obtain ⟨rfl, c2, rfl, h2⟩ := q2
  try simp only [zpush]
  refine z_istore dX3_fromRimDown_5 (by decide) ?_
  refine z_iload dX3_fromRimDown_7 rfl ?_
  refine z_iconst dX3_fromRimDown_9 ?_
  refine z_icmp_ne (tgt := 15) dX3_fromRimDown_10 (by decide) (by omega) (by omega) (fun c10 => ?_) (fun c10 => ?_)
  · have hce : c2 = 6 * row + lane := by omega
    subst hce
    refine z_bipush dX3_fromRimDown_15 (by decide) ?_
    refine z_istore dX3_fromRimDown_17 (by decide) ?_
    have L : ∀ (n : Nat) (c : Int) (N : zM), (6 * row - 1 ≤ c ∧ c ≤ 119) → (n = c + 2) → (∀ a : Int, a ≠ 185 → N a = M a) → (∀ j : Int, c < j → j < 120 → N 185 j = zU σ j) → zW G YX3_fromRimDown (fun v M' => v = some (.inl (zU σ (6 * row + lane))) ∧ ∀ a : Int, a ≠ 185 → M' a = M a) 19 [(5, .inl c), (0, .inr (some 184)), (1, .inr (some p)), (2, .inl lane), (3, .inl row), (4, .inl (6 * row + lane))] [] N := by
      intro n
      induction n with
      | zero => intro c N hc hcn hO hN; exfalso; omega
      | succ n ih =>
        intro c N hc hcn hO hN
        refine z_iload dX3_fromRimDown_19 rfl ?_
        refine z_iload_n dX3_fromRimDown_21 rfl ?_
        refine z_bipush dX3_fromRimDown_22 (by decide) ?_
        refine z_imul dX3_fromRimDown_24 ?_
        refine z_icmp_lt (tgt := 71) dX3_fromRimDown_25 (by decide) (by omega) (by omega) (fun c25 => ?_) (fun c25 => ?_)
        · refine z_aload_n dX3_fromRimDown_71 rfl ?_
          refine z_getR (b := 185) dX3_fromRimDown_72 fX3_9 (by decide) (zsh184) rfl rfl ?_
          refine z_iload dX3_fromRimDown_75 rfl ?_
          refine z_iaload dX3_fromRimDown_77 (by decide) (zsh185) (by omega) (by decide) ?_
          refine z_iret dX3_fromRimDown_78 rfl ?_
          exact ⟨by rw [hN _ (by omega) (by omega)], hO⟩
        · refine z_iload dX3_fromRimDown_28 rfl ?_
          refine z_bipush dX3_fromRimDown_30 (by decide) ?_
          refine z_idiv dX3_fromRimDown_32 (by omega) (by omega) ?_
          refine z_istore dX3_fromRimDown_33 (by decide) ?_
          refine z_aload_n dX3_fromRimDown_35 rfl ?_
          refine z_getR (b := 185) dX3_fromRimDown_36 fX3_9 (by decide) (zsh184) rfl rfl ?_
          refine z_iload dX3_fromRimDown_39 rfl ?_
          refine z_iload dX3_fromRimDown_41 rfl ?_
          refine z_bipush dX3_fromRimDown_43 (by decide) ?_
          refine z_icmp_ne (tgt := 52) dX3_fromRimDown_45 (by decide) (by omega) (by omega) (fun c45 => ?_) (fun c45 => ?_)
          · refine z_aload_n dX3_fromRimDown_52 rfl ?_
            refine z_aload_n dX3_fromRimDown_53 rfl ?_
            refine z_iload dX3_fromRimDown_54 rfl ?_
            refine z_bipush dX3_fromRimDown_56 (by decide) ?_
            refine z_irem dX3_fromRimDown_58 (by omega) (by omega) ?_
            refine z_iload dX3_fromRimDown_59 rfl ?_
            refine z_callV mX3_leastAbove (vX3_leastAbove (u := sWayN σ (18 - c / 6).toNat) hp (hR.mv (fun a q1 q2 => hO a (by obtain ⟨w1, w2, w3⟩ := hp; omega))) hI (by omega) (by omega) (fun x q1 q2 => by rw [hN (6 * (c / 6 + 1) + x) (by omega) (by omega), zU_e σ ⟨q1, q2⟩, show 19 - (c / 6 + 1) = 18 - c / 6 by omega]) (fun x q1 q2 => by have := sWayN_r hI (18 - c / 6).toNat x (by omega) q1 q2; omega)) rfl dX3_fromRimDown_61 kX3_22 (by decide) rfl (by show _ ≤ 8; simp) (by decide) (zsh184) (by decide) rfl (fun v61 M61 q61 => ?_)
            obtain ⟨rfl, rfl⟩ := q61
            try simp only [zpush]
            refine z_niast dX3_fromRimDown_64 (by decide) (zsh185) (by omega) (by decide) (fun N64 hN64 => ?_)
            refine z_iinc dX3_fromRimDown_65 rfl (by decide) ?_
            refine z_goto (tgt := 19) dX3_fromRimDown_68 (by decide) ?_
            refine zsub' (ih (c + -1) _ (by omega) (by omega) (fun a q => by rw [hN64, zm_up_off q]; exact hO a q) (fun j q1 q2 => ?_)) ⟨rfl, rfl, rfl, rfl, rfl, rfl, trivial⟩
            rw [hN64, zm_up_j]
            by_cases hj : j = c
            · subst hj
              rw [if_pos rfl]
              first | exact (zU_19 σ (by omega)).symm | exact (zU_st σ (by omega)).symm
            · rw [if_neg hj]
              exact hN j (by omega) q2
          · refine z_iconst dX3_fromRimDown_48 ?_
            refine z_goto (tgt := 64) dX3_fromRimDown_49 (by decide) ?_
            refine z_niast dX3_fromRimDown_64 (by decide) (zsh185) (by omega) (by decide) (fun N64 hN64 => ?_)
            refine z_iinc dX3_fromRimDown_65 rfl (by decide) ?_
            refine z_goto (tgt := 19) dX3_fromRimDown_68 (by decide) ?_
            refine zsub' (ih (c + -1) _ (by omega) (by omega) (fun a q => by rw [hN64, zm_up_off q]; exact hO a q) (fun j q1 q2 => ?_)) ⟨rfl, rfl, rfl, rfl, rfl, rfl, trivial⟩
            rw [hN64, zm_up_j]
            by_cases hj : j = c
            · subst hj
              rw [if_pos rfl]
              first | exact (zU_19 σ (by omega)).symm | exact (zU_st σ (by omega)).symm
            · rw [if_neg hj]
              exact hN j (by omega) q2
    exact zsub' (L 121 119 M (by omega) (by omega) (fun _ _ => rfl) (fun j q1 q2 => absurd q1 (by omega))) ⟨rfl, rfl, rfl, rfl, rfl, rfl, trivial⟩
  · exfalso; omega

