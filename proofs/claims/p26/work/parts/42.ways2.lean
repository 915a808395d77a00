theorem sWayR_o {σ : zS} {u : Int → Int} {r l : Int} (hI : zI σ) (hr : 0 ≤ r ∧ r ≤ 18) (hl : 0 ≤ l ∧ l ≤ 5) (hu : ∀ x : Int, 0 ≤ x → x ≤ 5 → 0 ≤ u x) : (∀ s : Int, 0 ≤ s → s ≤ 2 → 0 ≤ sLn l s → sLn l s ≤ 5 → sWayR σ u r l ≤ u (sLn l s) + 1 + σ (6 * (r + 1) + sLn l s)) ∧ ∃ s : Int, (0 ≤ s ∧ s ≤ 2) ∧ (0 ≤ sLn l s ∧ sLn l s ≤ 5) ∧ sWayR σ u r l = u (sLn l s) + 1 + σ (6 * (r + 1) + sLn l s) := by
  have e0 : sLn l 0 = l := by unfold sLn; rw [if_pos rfl]
  have e1 : sLn l 1 = l - 1 := by unfold sLn; rw [if_neg (by decide), if_pos rfl]
  have e2 : sLn l 2 = l + 1 := by unfold sLn; rw [if_neg (by decide), if_neg (by decide)]
  have hv : ∀ x : Int, 0 ≤ x → x ≤ 5 → 1 ≤ u x + 1 + σ (6 * (r + 1) + x) := fun x q1 q2 => by
    have h1 := hu x q1 q2
    have h2 := hI.2.1 (6 * (r + 1) + x) (by omega) (by omega)
    unfold zIc at h2
    omega
  have h0 := hv l hl.1 hl.2
  have hE : sWayR σ u r l = sWayF σ u r l 2 (sWayF σ u r l 1 (sWayF σ u r l 0 (-5))) := by
    unfold sWayR
    rw [zfor_step (by decide), zfor_step (by decide), zfor_step (by decide), zfor_end (by decide)]
    rfl
  have f0 : sWayF σ u r l 0 (-5) = u l + 1 + σ (6 * (r + 1) + l) := by unfold sWayF; rw [e0, if_pos ⟨hl, Or.inl rfl⟩]
  rw [hE, f0]
  generalize hg0 : u l + 1 + σ (6 * (r + 1) + l) = g0 at h0
  have f1 : (0 ≤ l - 1 ∧ sWayF σ u r l 1 g0 ≤ g0 ∧ sWayF σ u r l 1 g0 ≤ u (l - 1) + 1 + σ (6 * (r + 1) + (l - 1)) ∧ (sWayF σ u r l 1 g0 = g0 ∨ sWayF σ u r l 1 g0 = u (l - 1) + 1 + σ (6 * (r + 1) + (l - 1))) ∧ 1 ≤ sWayF σ u r l 1 g0) ∨ (l - 1 < 0 ∧ sWayF σ u r l 1 g0 = g0) := by
    unfold sWayF
    rw [e1]
    by_cases q : 0 ≤ l - 1
    · have h1 := hv (l - 1) q (by omega)
      left
      split <;> omega
    · right
      rw [if_neg (by omega)]
      exact ⟨by omega, rfl⟩
  generalize sWayF σ u r l 1 g0 = g1 at f1
  have f2 : (l + 1 ≤ 5 ∧ sWayF σ u r l 2 g1 ≤ g1 ∧ sWayF σ u r l 2 g1 ≤ u (l + 1) + 1 + σ (6 * (r + 1) + (l + 1)) ∧ (sWayF σ u r l 2 g1 = g1 ∨ sWayF σ u r l 2 g1 = u (l + 1) + 1 + σ (6 * (r + 1) + (l + 1)))) ∨ (5 < l + 1 ∧ sWayF σ u r l 2 g1 = g1) := by
    unfold sWayF
    rw [e2]
    by_cases q : l + 1 ≤ 5
    · have h1 := hv (l + 1) (by omega) q
      left
      split <;> omega
    · right
      rw [if_neg (by omega)]
      exact ⟨by omega, rfl⟩
  generalize sWayF σ u r l 2 g1 = g2 at f2
  refine ⟨fun s q1 q2 q3 q4 => ?_, ?_⟩
  · rcases (show s = 0 ∨ s = 1 ∨ s = 2 by omega) with h | h | h
    · subst h; rw [e0]; omega
    · subst h; rw [e1] at q3 q4 ⊢; omega
    · subst h; rw [e2] at q3 q4 ⊢; omega
  · by_cases k2 : l + 1 ≤ 5 ∧ g2 = u (l + 1) + 1 + σ (6 * (r + 1) + (l + 1))
    · exact ⟨2, by omega, by rw [e2]; omega, by rw [e2]; exact k2.2⟩
    · by_cases k1 : 0 ≤ l - 1 ∧ g2 = u (l - 1) + 1 + σ (6 * (r + 1) + (l - 1))
      · exact ⟨1, by omega, by rw [e1]; omega, by rw [e1]; exact k1.2⟩
      · exact ⟨0, by omega, by rw [e0]; omega, by rw [e0]; omega⟩
/-- the cell a step above -/
def zAb (c s : Int) : Int := 6 * (c / 6 + 1) + sLn (c % 6) s
def zIn (c s : Int) : Prop := 0 ≤ sLn (c % 6) s ∧ sLn (c % 6) s ≤ 5
theorem zU_le {σ : zS} (hI : zI σ) {c s : Int} (hc : 0 ≤ c ∧ c < 114) (hs : 0 ≤ s ∧ s ≤ 2) (hin : zIn c s) : zU σ c ≤ zU σ (zAb c s) + 1 + σ (zAb c s) := by
  have h := (sWayR_o hI (r := c / 6) (l := c % 6) (u := sWayN σ (18 - c / 6).toNat) (by omega) (by omega) (fun x q1 q2 => by have := sWayN_r hI (18 - c / 6).toNat x (by omega) q1 q2; omega)).1 s hs.1 hs.2 hin.1 hin.2
  rw [zU_st σ hc]
  unfold zAb
  rw [zU_e σ hin, show 19 - (c / 6 + 1) = 18 - c / 6 by omega]
  exact h
theorem zU_ex {σ : zS} (hI : zI σ) {c : Int} (hc : 0 ≤ c ∧ c < 114) : ∃ s : Int, (0 ≤ s ∧ s ≤ 2) ∧ zIn c s ∧ zU σ c = zU σ (zAb c s) + 1 + σ (zAb c s) := by
  obtain ⟨s, h1, h2, h3⟩ := (sWayR_o hI (r := c / 6) (l := c % 6) (u := sWayN σ (18 - c / 6).toNat) (by omega) (by omega) (fun x q1 q2 => by have := sWayN_r hI (18 - c / 6).toNat x (by omega) q1 q2; omega)).2
  refine ⟨s, h1, h2, ?_⟩
  rw [zU_st σ hc]
  unfold zAb
  rw [zU_e σ h2, show 19 - (c / 6 + 1) = 18 - c / 6 by omega]
  exact h3
theorem zAb_r {c s : Int} (hc : 0 ≤ c ∧ c < 114) (hin : zIn c s) : c < zAb c s ∧ zAb c s < 120 ∧ c / 6 + 1 = zAb c s / 6 := by
  unfold zIn at hin
  unfold zAb
  omega
/-- what a round relaxes: weak, but enough -/
def zRx (S S' : zS) (σ : zS) (c i : Int) : Prop := (∀ x : Int, S' x ≤ S x) ∧ (∀ x : Int, S' x = S x ∨ (∃ s : Int, (0 ≤ s ∧ s ≤ 2) ∧ zIn c s ∧ x = zAb c s) ∧ S' x = S c + 1 + σ x) ∧ (∀ s : Int, 0 ≤ s → s < i → zIn c s → S' (zAb c s) ≤ S c + 1 + σ (zAb c s))
theorem zRx.rf (S σ : zS) (c : Int) : zRx S S σ c 0 := ⟨fun _ => Int.le_refl _, fun _ => Or.inl rfl, fun s q1 q2 => absurd q1 (by omega)⟩
theorem zRx.c {S S' σ : zS} {c i : Int} (h : zRx S S' σ c i) (hc : 0 ≤ c ∧ c < 114) : S' c = S c := by
  rcases h.2.1 c with q | ⟨⟨s, q1, q2, q3⟩, _⟩
  · exact q
  · have := zAb_r hc q2
    omega
theorem zRx.no {S S' σ : zS} {c i : Int} (h : zRx S S' σ c i) (hn : ¬ zIn c i) : zRx S S' σ c (i + 1) := ⟨h.1, h.2.1, fun s q1 q2 q3 => by
  by_cases he : s = i
  · subst he; exact absurd q3 hn
  · exact h.2.2 s q1 (by omega) q3⟩
theorem zRx.go {S S' σ : zS} {c i : Int} (h : zRx S S' σ c i) (hi : 0 ≤ i ∧ i ≤ 2) (hn : zIn c i) : zRx S (fun j => if j = zAb c i then min (S' (zAb c i)) (S c + (1 + σ (zAb c i))) else S' j) σ c (i + 1) := by
  refine ⟨fun x => ?_, fun x => ?_, fun s q1 q2 q3 => ?_⟩
  · have := h.1 x
    show (if x = zAb c i then _ else _) ≤ _
    split
    · rename_i e; rw [← e]; omega
    · exact this
  · show (if x = zAb c i then _ else _) = S x ∨ _ ∧ (if x = zAb c i then _ else _) = _
    by_cases e : x = zAb c i
    · rw [if_pos e, ← e]
      by_cases m : S' x ≤ S c + (1 + σ x)
      · rw [show min (S' x) (S c + (1 + σ x)) = S' x by omega]
        exact h.2.1 x
      · rw [show min (S' x) (S c + (1 + σ x)) = S c + 1 + σ x by omega]
        exact Or.inr ⟨⟨i, hi, hn, e⟩, rfl⟩
    · rw [if_neg e]
      exact h.2.1 x
  · show (if zAb c s = zAb c i then _ else _) ≤ _
    by_cases e : zAb c s = zAb c i
    · rw [if_pos e, e]; omega
    · rw [if_neg e]
      have hsi : s ≠ i := fun q => e (by rw [q])
      exact h.2.2 s q1 (by omega) q3

theorem vX3_reachAbove {G : zG} {M : zM} {σ : zS} {p c : Int} (hp : zP p) (hR : zRel M p σ) (hI : zI σ) (hc : 0 ≤ c ∧ c < 114) (hS : ∀ x : Int, 0 ≤ x → x < 120 → 0 ≤ M 185 x ∧ M 185 x ≤ 1000000) : zCall G yX3_reachAbove YX3_reachAbove [.inr (some 184), .inr (some p), .inl c] M (fun v M' => v = none ∧ (∀ a : Int, a ≠ 185 → M' a = M a) ∧ zRx (M 185) (M' 185) σ c 3) := by
  refine zEnter (by decide +kernel) rfl (Nat.le_of_ble_eq_true rfl) ?_
  refine z_getstN (t := 0) dX3_reachAbove_0 (by decide) sX3_27 ?_
  refine z_astore_n dX3_reachAbove_3 (by decide) ?_
  refine z_aload_n dX3_reachAbove_4 rfl ?_
  refine z_stlen dX3_reachAbove_5 rfl (by decide) ?_
  refine z_istore dX3_reachAbove_6 (by decide) ?_
  refine z_iconst dX3_reachAbove_8 ?_
  refine z_istore dX3_reachAbove_9 (by decide) ?_
  have L : ∀ (n : Nat) (i : Int) (N : zM), (0 ≤ i ∧ i ≤ 3) → (i + n = 4) → (∀ a : Int, a ≠ 185 → N a = M a) → (zRx (M 185) (N 185) σ c i) → zW G YX3_reachAbove (fun v M' => v = none ∧ (∀ a : Int, a ≠ 185 → M' a = M a) ∧ zRx (M 185) (M' 185) σ c 3) 11 [(5, .inl i), (0, .inr (some 184)), (1, .inr (some p)), (2, .inl c), (3, .inr (some (1000 + ((0 : Nat) : Int)))), (4, .inl ((zm_st 0).2.length : Int))] [] N := by
    intro n
    induction n with
    | zero => intro i N hi hin hO hX; exfalso; omega
    | succ n ih =>
      intro i N hi hin hO hX
      refine z_iload dX3_reachAbove_11 rfl ?_
      refine z_iload dX3_reachAbove_13 rfl ?_
      refine z_icmp_ge (tgt := 84) dX3_reachAbove_15 (by decide) (by omega) (by decide) (fun c15 => ?_) (fun c15 => ?_)
      · refine z_vret dX3_reachAbove_84 rfl ?_
        have h3 : ((zm_st 0).2.length : Int) = 3 := rfl
        have hi3 : i = 3 := by omega
        subst hi3
        exact ⟨rfl, hO, hX⟩
      · have h3 : ((zm_st 0).2.length : Int) = 3 := rfl
        have hR := hR.mv (N := N) (fun a q1 q2 => hO a (by obtain ⟨w1, w2, w3⟩ := hp; omega))
        refine z_aload_n dX3_reachAbove_18 rfl ?_
        refine z_iload dX3_reachAbove_19 rfl ?_
        refine z_stload (x := sLn 0 i) (t := 0) dX3_reachAbove_21 rfl (by decide) (by show _ ∧ _ < (3 : Int); omega) (by rcases (show i = 0 ∨ i = 1 ∨ i = 2 by omega) with h | h | h <;> (rw [h]; rfl)) ?_
        refine z_istore dX3_reachAbove_22 (by decide) ?_
        refine z_iload_n dX3_reachAbove_24 rfl ?_
        refine z_bipush dX3_reachAbove_25 (by decide) ?_
        refine z_irem dX3_reachAbove_27 (by omega) (by omega) ?_
        have hsr := sLn_r (show 0 ≤ c % 6 ∧ c % 6 ≤ 5 by omega) i
        refine z_iload dX3_reachAbove_28 rfl ?_
        refine z_iadd dX3_reachAbove_30 ?_
        rw [sLn_add]
        refine z_iload_n dX3_reachAbove_31 rfl ?_
        refine z_bipush dX3_reachAbove_32 (by decide) ?_
        refine z_idiv dX3_reachAbove_34 (by omega) (by omega) ?_
        refine z_iconst dX3_reachAbove_35 ?_
        refine z_iadd dX3_reachAbove_36 ?_
        refine z_callSN mX4_cellAt (vX4_cellAt (by omega) (by omega)) rfl dX3_reachAbove_37 kX3_18 (by decide) rfl (by show _ ≤ 8; simp) (fun v37 M37 q37 => ?_)
        obtain ⟨rfl, c37, rfl, h37⟩ := q37
        try simp only [zpush]
        refine z_istore dX3_reachAbove_40 (by decide) ?_
        refine z_iload dX3_reachAbove_42 rfl ?_
        refine z_iconst dX3_reachAbove_44 ?_
        refine z_icmp_eq (tgt := 78) dX3_reachAbove_45 (by decide) (by omega) (by omega) (fun c45 => ?_) (fun c45 => ?_)
        · refine z_iinc dX3_reachAbove_78 rfl (by decide) ?_
          refine z_goto (tgt := 11) dX3_reachAbove_81 (by decide) ?_
          first
            | exact zsub' (ih (i + 1) _ (by omega) (by omega) hO (hX.no (fun q => by unfold zIn at q; omega))) ⟨rfl, rfl, rfl, rfl, rfl, rfl, trivial⟩
            | exact zsub' (ih (i + 1) _ (by omega) (by omega) (fun a q => by rw [hN77, zm_up_off q]; exact hO a q) (by have hg := hX.go (by omega) hzi; rw [show N77 185 = _ from hfun]; exact hg)) ⟨rfl, rfl, rfl, rfl, rfl, rfl, trivial⟩
        · have hzi : zIn c i := by unfold zIn; omega
          have hab : c37 = zAb c i := by unfold zAb; omega
          have habr := zAb_r hc hzi
          have hcR := hI.2.1 c37 (by omega) (by omega)
          unfold zIc at hcR
          have hSc := hS c (by omega) (by omega)
          have hSa := hS c37 (by omega) (by omega)
          have hle := hX.1 c37
          have hNc := hX.c hc
          have hlo : 0 ≤ N 185 c37 := by
            rcases hX.2.1 c37 with q | ⟨_, q⟩ <;> omega
          refine z_aload_n dX3_reachAbove_48 rfl ?_
          refine z_getR (b := 185) dX3_reachAbove_49 fX3_9 (by decide) (zsh184) rfl rfl ?_
          refine z_iload dX3_reachAbove_52 rfl ?_
          refine z_aload_n dX3_reachAbove_54 rfl ?_
          refine z_getR (b := 185) dX3_reachAbove_55 fX3_9 (by decide) (zsh184) rfl rfl ?_
          refine z_iload dX3_reachAbove_58 rfl ?_
          refine z_iaload dX3_reachAbove_60 (by decide) (zsh185) (by omega) (by decide) ?_
          refine z_aload_n dX3_reachAbove_61 rfl ?_
          refine z_getR (b := 185) dX3_reachAbove_62 fX3_9 (by decide) (zsh184) rfl rfl ?_
          refine z_iload_n dX3_reachAbove_65 rfl ?_
          refine z_iaload dX3_reachAbove_66 (by decide) (zsh185) (by omega) (by decide) ?_
          refine z_aload_n dX3_reachAbove_67 rfl ?_
          refine z_iload dX3_reachAbove_68 rfl ?_
          refine z_callV mX1_priceOf (vX1_priceOf hp hR (by omega)) rfl dX3_reachAbove_70 kX3_30 (by decide) rfl (by show _ ≤ 8; simp) (zP_r0 hp) (zm_sh_p0 hp) (by decide) rfl (fun v70 M70 q70 => ?_)
          obtain ⟨rfl, rfl⟩ := q70
          try simp only [zpush]
          refine z_iadd dX3_reachAbove_73 ?_
          refine z_min dX3_reachAbove_74 kX3_36 pMinS pMinI pMinC (by decide) (Nat.le_of_ble_eq_true rfl) (by omega) (by omega) ?_
          refine z_niast dX3_reachAbove_77 (by decide) (zsh185) (by omega) (by decide) (fun N77 hN77 => ?_)
          have hfun : N77 185 = fun j => if j = zAb c i then min (N 185 (zAb c i)) (M 185 c + (1 + σ (zAb c i))) else N 185 j := by
            funext j
            rw [hN77, zm_up_j, hNc, ← hab]
          refine z_iinc dX3_reachAbove_78 rfl (by decide) ?_
          refine z_goto (tgt := 11) dX3_reachAbove_81 (by decide) ?_
          first
            | exact zsub' (ih (i + 1) _ (by omega) (by omega) hO (hX.no (fun q => by unfold zIn at q; omega))) ⟨rfl, rfl, rfl, rfl, rfl, rfl, trivial⟩
            | exact zsub' (ih (i + 1) _ (by omega) (by omega) (fun a q => by rw [hN77, zm_up_off q]; exact hO a q) (by have hg := hX.go (by omega) hzi; rw [show N77 185 = _ from hfun]; exact hg)) ⟨rfl, rfl, rfl, rfl, rfl, rfl, trivial⟩
  exact zsub' (L 4 0 M (by omega) (by omega) (fun _ _ => rfl) (zRx.rf _ _ _)) ⟨rfl, rfl, rfl, rfl, rfl, rfl, trivial⟩

def zNr (M : zM) (b i : Int) : Prop := (b = -1 ∧ ∀ y : Int, 0 ≤ y → y < i → M 186 y = 0 → 1000000 ≤ M 185 y) ∨ ((0 ≤ b ∧ b < i) ∧ M 186 b = 0 ∧ M 185 b < 1000000 ∧ ∀ y : Int, 0 ≤ y → y < i → M 186 y = 0 → M 185 b ≤ M 185 y)

theorem vX3_nearest {G : zG} {M : zM} (hS : ∀ x : Int, 0 ≤ x → x < 120 → (0 ≤ M 185 x ∧ M 185 x ≤ 1000000) ∧ (M 186 x = 0 ∨ M 186 x = 1)) : zCall G yX3_nearest YX3_nearest [.inr (some 184)] M (fun v M' => M = M' ∧ ∃ b : Int, v = some (.inl b) ∧ zNr M b 120) := by
  refine zEnter (by decide +kernel) rfl (Nat.le_of_ble_eq_true rfl) ?_
  refine z_iconst dX3_nearest_0 ?_
  refine z_istore_n dX3_nearest_1 (by decide) ?_
  refine z_ldc (n := 1000000) dX3_nearest_2 qX3_26 ?_
  refine z_istore_n dX3_nearest_4 (by decide) ?_
  refine z_iconst dX3_nearest_5 ?_
  refine z_istore_n dX3_nearest_6 (by decide) ?_
  have L : ∀ (n : Nat) (i : Int) (b : Int) (x : Int), (0 ≤ i ∧ i ≤ 120) → (i + n = 121) → (zNr M b i) → ((b = -1 ∧ x = 1000000) ∨ (0 ≤ b ∧ x = M 185 b ∧ 0 ≤ x ∧ x < 1000000)) → zW G YX3_nearest (fun v M' => M = M' ∧ ∃ b : Int, v = some (.inl b) ∧ zNr M b 120) 7 [(3, .inl i), (1, .inl b), (2, .inl x), (0, .inr (some 184))] [] M := by
    intro n
    induction n with
    | zero => intro i b x hi hin hb hx; exfalso; omega
    | succ n ih =>
      intro i b x hi hin hb hx
      refine z_iload_n dX3_nearest_7 rfl ?_
      refine z_bipush dX3_nearest_8 (by decide) ?_
      refine z_icmp_ge (tgt := 47) dX3_nearest_10 (by decide) (by omega) (by omega) (fun c10 => ?_) (fun c10 => ?_)
      · have hi0 : i = 120 := by omega
        subst hi0
        refine z_iload_n dX3_nearest_47 rfl ?_
        refine z_iret dX3_nearest_48 rfl ?_
        exact ⟨rfl, _, rfl, hb⟩
      · have hSi := hS i (by omega) (by omega)
        refine z_aload_n dX3_nearest_13 rfl ?_
        refine z_getR (b := 186) dX3_nearest_14 fX3_15 (by decide) (zsh184) rfl rfl ?_
        refine z_iload_n dX3_nearest_17 rfl ?_
        refine z_iaload dX3_nearest_18 (by decide) (zsh186) (by omega) (by decide) ?_
        refine z_if_ne (tgt := 41) dX3_nearest_19 (by decide) (by omega) (fun c19 => ?_) (fun c19 => ?_)
        · refine z_iinc dX3_nearest_41 rfl (by decide) ?_
          refine z_goto (tgt := 7) dX3_nearest_44 (by decide) ?_
          first
            | exact zsub' (ih (i + 1) i _ (by omega) (by omega) (Or.inr ⟨by omega, by omega, by omega, fun y q1 q2 q3 => by unfold zNr at hb; by_cases hy : y = i; (subst hy; omega); (rcases hb with ⟨_, hb⟩ | ⟨_, _, _, hb⟩ <;> (have := hb y q1 (by omega) q3; omega))⟩) (by omega)) ⟨rfl, rfl, rfl, rfl, trivial⟩
            | exact zsub' (ih (i + 1) b x (by omega) (by omega) (by unfold zNr at hb ⊢; rcases hb with ⟨h1, hb⟩ | ⟨h1, h2, h4, hb⟩; exact Or.inl ⟨h1, fun y q1 q2 q3 => by by_cases hy : y = i; (subst hy; omega); exact hb y q1 (by omega) q3⟩; exact Or.inr ⟨by omega, h2, h4, fun y q1 q2 q3 => by by_cases hy : y = i; (subst hy; omega); exact hb y q1 (by omega) q3⟩) hx) ⟨rfl, rfl, rfl, rfl, trivial⟩
        · refine z_aload_n dX3_nearest_22 rfl ?_
          refine z_getR (b := 185) dX3_nearest_23 fX3_9 (by decide) (zsh184) rfl rfl ?_
          refine z_iload_n dX3_nearest_26 rfl ?_
          refine z_iaload dX3_nearest_27 (by decide) (zsh185) (by omega) (by decide) ?_
          refine z_iload_n dX3_nearest_28 rfl ?_
          refine z_icmp_ge (tgt := 41) dX3_nearest_29 (by decide) (by omega) (by omega) (fun c29 => ?_) (fun c29 => ?_)
          · refine z_iinc dX3_nearest_41 rfl (by decide) ?_
            refine z_goto (tgt := 7) dX3_nearest_44 (by decide) ?_
            first
              | exact zsub' (ih (i + 1) i _ (by omega) (by omega) (Or.inr ⟨by omega, by omega, by omega, fun y q1 q2 q3 => by unfold zNr at hb; by_cases hy : y = i; (subst hy; omega); (rcases hb with ⟨_, hb⟩ | ⟨_, _, _, hb⟩ <;> (have := hb y q1 (by omega) q3; omega))⟩) (by omega)) ⟨rfl, rfl, rfl, rfl, trivial⟩
              | exact zsub' (ih (i + 1) b x (by omega) (by omega) (by unfold zNr at hb ⊢; rcases hb with ⟨h1, hb⟩ | ⟨h1, h2, h4, hb⟩; exact Or.inl ⟨h1, fun y q1 q2 q3 => by by_cases hy : y = i; (subst hy; omega); exact hb y q1 (by omega) q3⟩; exact Or.inr ⟨by omega, h2, h4, fun y q1 q2 q3 => by by_cases hy : y = i; (subst hy; omega); exact hb y q1 (by omega) q3⟩) hx) ⟨rfl, rfl, rfl, rfl, trivial⟩
          · refine z_iload_n dX3_nearest_32 rfl ?_
            refine z_istore_n dX3_nearest_33 (by decide) ?_
            refine z_aload_n dX3_nearest_34 rfl ?_
            refine z_getR (b := 185) dX3_nearest_35 fX3_9 (by decide) (zsh184) rfl rfl ?_
            refine z_iload_n dX3_nearest_38 rfl ?_
            refine z_iaload dX3_nearest_39 (by decide) (zsh185) (by omega) (by decide) ?_
            refine z_istore_n dX3_nearest_40 (by decide) ?_
            refine z_iinc dX3_nearest_41 rfl (by decide) ?_
            refine z_goto (tgt := 7) dX3_nearest_44 (by decide) ?_
            first
              | exact zsub' (ih (i + 1) i _ (by omega) (by omega) (Or.inr ⟨by omega, by omega, by omega, fun y q1 q2 q3 => by unfold zNr at hb; by_cases hy : y = i; (subst hy; omega); (rcases hb with ⟨_, hb⟩ | ⟨_, _, _, hb⟩ <;> (have := hb y q1 (by omega) q3; omega))⟩) (by omega)) ⟨rfl, rfl, rfl, rfl, trivial⟩
              | exact zsub' (ih (i + 1) b x (by omega) (by omega) (by unfold zNr at hb ⊢; rcases hb with ⟨h1, hb⟩ | ⟨h1, h2, h4, hb⟩; exact Or.inl ⟨h1, fun y q1 q2 q3 => by by_cases hy : y = i; (subst hy; omega); exact hb y q1 (by omega) q3⟩; exact Or.inr ⟨by omega, h2, h4, fun y q1 q2 q3 => by by_cases hy : y = i; (subst hy; omega); exact hb y q1 (by omega) q3⟩) hx) ⟨rfl, rfl, rfl, rfl, trivial⟩
  exact zsub' (L 121 0 (-1) 1000000 (by omega) (by omega) (Or.inl ⟨rfl, fun y q1 q2 => absurd q1 (by omega)⟩) (by omega)) ⟨rfl, rfl, rfl, rfl, trivial⟩

theorem vfill {G : zG} {M : zM} {a x : Int} {m : Nat} (ha : 0 ≤ a ∧ a < 187) (hs : zm_sh a = .inl (0, m)) (hm : m ≤ 1000) : zCall G yfill Yfill [.inr (some a), .inl x] M (fun v M' => v = none ∧ (∀ b : Int, b ≠ a → M' b = M b) ∧ ∀ j : Int, 0 ≤ j → j < m → M' a j = x) := by
  refine zEnter (by decide +kernel) rfl (Nat.le_of_ble_eq_true rfl) ?_
  refine z_iconst dfill_0 ?_
  refine z_istore_n dfill_1 (by decide) ?_
  refine z_aload_n dfill_2 rfl ?_
  refine z_alen dfill_3 ha hs (by omega) ?_
  refine z_istore_n dfill_4 (by decide) ?_
  have L : ∀ (n : Nat) (i : Int) (N : zM), (0 ≤ i ∧ i ≤ m) → (i + n = m + 1) → (∀ b : Int, b ≠ a → N b = M b) → (∀ j : Int, 0 ≤ j → j < i → N a j = x) → zW G Yfill (fun v M' => v = none ∧ (∀ b : Int, b ≠ a → M' b = M b) ∧ ∀ j : Int, 0 ≤ j → j < m → M' a j = x) 5 [(2, .inl i), (0, .inr (some a)), (1, .inl x), (3, .inl (m : Int))] [] N := by
    intro n
    induction n with
    | zero => intro i N hi hin hO hN; exfalso; omega
    | succ n ih =>
      intro i N hi hin hO hN
      refine z_iload_n dfill_5 rfl ?_
      refine z_iload_n dfill_6 rfl ?_
      refine z_icmp_ge (tgt := 20) dfill_7 (by decide) (by omega) (by omega) (fun c7 => ?_) (fun c7 => ?_)
      · refine z_vret dfill_20 rfl ?_
        exact ⟨rfl, hO, fun j q1 q2 => hN j q1 (by omega)⟩
      · refine z_aload_n dfill_10 rfl ?_
        refine z_iload_n dfill_11 rfl ?_
        refine z_iload_n dfill_12 rfl ?_
        refine z_niast dfill_13 ha hs (by omega) (by omega) (fun N13 hN13 => ?_)
        refine z_iinc dfill_14 rfl (by decide) ?_
        refine z_goto (tgt := 5) dfill_17 (by decide) ?_
        exact zsub' (ih (i + 1) _ (by omega) (by omega) (fun b q => by rw [hN13, zm_up_off q]; exact hO b q) (fun j q1 q2 => by rw [hN13, zm_up_j]; by_cases hj : j = i; (rw [if_pos hj]); (rw [if_neg hj]; exact hN j q1 (by omega)))) ⟨rfl, rfl, rfl, rfl, trivial⟩
  exact zsub' (L (m + 1) 0 M (by omega) (by omega) (fun _ _ => rfl) (fun j q1 q2 => absurd q1 (by omega))) ⟨rfl, rfl, rfl, rfl, trivial⟩

