theorem zm_up_j (M : zM) (a i v j : Int) : zm_up M a i v a j = if j = i then v else M a j := by
  by_cases h : j = i
  · subst h; rw [zm_up_at, if_pos rfl]
  · rw [zm_up_ne h, if_neg h]
def zDv2 (M : zM) (p t c : Int) : Int := if M (p + 2) c ≠ -5 ∧ M (p + 3) c + t > M (p + 24) 0 then -5 else M (p + 2) c
def zDv3 (M : zM) (p t c : Int) : Int := if M (p + 2) c ≠ -5 then (if M (p + 3) c + t > M (p + 24) 0 then -5 else M (p + 3) c + t) else M (p + 3) c
def zDr (M : zM) (p t i : Int) (N : zM) : Prop := (∀ a : Int, a ≠ p + 2 → a ≠ p + 3 → N a = M a) ∧ (∀ c : Int, 0 ≤ c → c < i → N (p + 2) c = zDv2 M p t c ∧ N (p + 3) c = zDv3 M p t c) ∧ (∀ c : Int, i ≤ c → c < 120 → N (p + 2) c = M (p + 2) c ∧ N (p + 3) c = M (p + 3) c)
theorem zDr.rf (M : zM) (p t : Int) : zDr M p t 0 M := ⟨fun _ _ _ => rfl, fun c q1 q2 => by omega, fun c _ _ => ⟨rfl, rfl⟩⟩
theorem zDr.go {M N N' : zM} {p t i : Int} (h : zDr M p t i N) (h0 : ∀ a : Int, a ≠ p + 2 → a ≠ p + 3 → N' a = N a) (h1 : ∀ j : Int, j ≠ i → N' (p + 2) j = N (p + 2) j ∧ N' (p + 3) j = N (p + 3) j) (h2 : N' (p + 2) i = zDv2 M p t i) (h3 : N' (p + 3) i = zDv3 M p t i) : zDr M p t (i + 1) N' := by
  obtain ⟨g0, g1, g2⟩ := h
  refine ⟨fun a q1 q2 => (h0 a q1 q2).trans (g0 a q1 q2), fun c q1 q2 => ?_, fun c q1 q2 => ?_⟩
  · by_cases he : c = i
    · subst he
      exact ⟨h2, h3⟩
    · have := g1 c q1 (by omega)
      have k := h1 c he
      rw [k.1, k.2]
      exact this
  · have := g2 c (by omega) q2
    have k := h1 c (by omega)
    rw [k.1, k.2]
    exact this
theorem zDr.skip {M N : zM} {p t i : Int} (h : zDr M p t i N) (hi : 0 ≤ i ∧ i < 120) (hc : N (p + 2) i = -5) : zDr M p t (i + 1) N := by
  have h3 := h.2.2 i (by omega) hi.2
  refine h.go (fun _ _ _ => rfl) (fun _ _ => ⟨rfl, rfl⟩) ?_ ?_
  · unfold zDv2; rw [if_neg (by omega)]; exact h3.1
  · unfold zDv3; rw [if_neg (by omega)]; exact h3.2
theorem zDr.age {M N : zM} {p t i : Int} (h : zDr M p t i N) (hi : 0 ≤ i ∧ i < 120) (hc : ¬ N (p + 2) i = -5) (hd : N (p + 3) i + t ≤ M (p + 24) 0) : zDr M p t (i + 1) (zm_up N (p + 3) i (N (p + 3) i + t)) := by
  have h3 := h.2.2 i (by omega) hi.2
  refine h.go (fun a _ q => zm_up_off q) (fun j q => ⟨by rw [zm_up_off (by omega)], by rw [zm_up_ne q]⟩) ?_ ?_
  · rw [zm_up_off (by omega)]; unfold zDv2; rw [if_neg (by omega)]; exact h3.1
  · rw [zm_up_at]; unfold zDv3; rw [if_pos (by omega), if_neg (by omega), h3.2]
theorem zDr.clr {M N : zM} {p t i x : Int} (h : zDr M p t i N) (hi : 0 ≤ i ∧ i < 120) (hc : ¬ N (p + 2) i = -5) (hd : N (p + 3) i + t > M (p + 24) 0) : zDr M p t (i + 1) (zm_up (zm_up (zm_up N (p + 3) i x) (p + 2) i (-5)) (p + 3) i (-5)) := by
  have h3 := h.2.2 i (by omega) hi.2
  refine h.go (fun a q1 q2 => by rw [zm_up_off q2, zm_up_off q1, zm_up_off q2]) (fun j q => ⟨by rw [zm_up_off (by omega), zm_up_ne q, zm_up_off (by omega)], by rw [zm_up_ne q, zm_up_off (by omega), zm_up_ne q]⟩) ?_ ?_
  · rw [zm_up_off (by omega), zm_up_at]; unfold zDv2; rw [if_pos (by omega)]
  · rw [zm_up_at]; unfold zDv3; rw [if_pos (by omega), if_pos (by omega)]
def zGr (M : zM) (p i : Int) (N : zM) : Prop := (∀ a : Int, a ≠ p + 1 → N a = M a) ∧ (∀ c : Int, 0 ≤ c → c < i → N (p + 1) c = M (p + 1) c + if M (p + 2) c = -5 ∧ M (p + 1) c < 9 then 1 else 0) ∧ (∀ c : Int, i ≤ c → c < 120 → N (p + 1) c = M (p + 1) c)
theorem zGr.rf (M : zM) (p : Int) : zGr M p 0 M := ⟨fun _ _ => rfl, fun c q1 q2 => by omega, fun c _ _ => rfl⟩
theorem zGr.no {M N : zM} {p i : Int} (h : zGr M p i N) (hi : 0 ≤ i ∧ i < 120) (hc : ¬ (M (p + 2) i = -5 ∧ M (p + 1) i < 9)) : zGr M p (i + 1) N := by
  obtain ⟨g0, g1, g2⟩ := h
  refine ⟨g0, fun c q1 q2 => ?_, fun c q1 q2 => g2 c (by omega) q2⟩
  by_cases he : c = i
  · subst he
    rw [if_neg hc, Int.add_zero]
    exact g2 c (by omega) hi.2
  · exact g1 c q1 (by omega)
theorem zGr.up {M N : zM} {p i : Int} (h : zGr M p i N) (hi : 0 ≤ i ∧ i < 120) (hc : M (p + 2) i = -5 ∧ M (p + 1) i < 9) : zGr M p (i + 1) (zm_up N (p + 1) i (N (p + 1) i + 1)) := by
  obtain ⟨g0, g1, g2⟩ := h
  refine ⟨fun a q => by rw [zm_up_off q]; exact g0 a q, fun c q1 q2 => ?_, fun c q1 q2 => by rw [zm_up_ne (by omega)]; exact g2 c (by omega) q2⟩
  by_cases he : c = i
  · subst he
    rw [if_pos hc, zm_up_at, g2 c (by omega) hi.2]
  · rw [zm_up_ne he]
    exact g1 c q1 (by omega)

theorem vX1_addSnail {G : zG} {M : zM} {σ : zS} {p lane slime : Int} (hp : zP p) (hR : zRel M p σ) (h8 : σ 535 ≤ 8) (hI : zI σ) : zCall G yX1_addSnail YX1_addSnail [.inr (some p), .inl lane, .inl slime] M (fun v M' => v = some (.inl (σ 535)) ∧ zRel M' p (sCome σ lane slime) ∧ zOff M M' p) := by
  refine zEnter (by decide +kernel) rfl (Nat.le_of_ble_eq_true rfl) ?_
  have hs9 := hI.1
  unfold zIs at hs9
  have hR5 := hR.2.2.2.2.2.1
  have hR6 := hR.2.2.2.2.2.2
  have hR4 := hR.2.2.2.2.1
  refine z_aload_n dX1_addSnail_0 rfl ?_
  refine z_getI (kI := 15) dX1_addSnail_1 fX1_67 (zP_r0 hp) (zm_sh_p0 hp) rfl rfl ?_
  refine z_istore_n dX1_addSnail_4 (by decide) ?_
  refine z_iload_n dX1_addSnail_5 rfl ?_
  refine z_if_lt (tgt := 15) dX1_addSnail_6 (by decide) (by omega) (fun c6 => ?_) (fun c6 => ?_)
  · exfalso; omega
  · refine z_iload_n dX1_addSnail_9 rfl ?_
    refine z_bipush dX1_addSnail_10 (by decide) ?_
    refine z_icmp_lt (tgt := 18) dX1_addSnail_12 (by decide) (by omega) (by omega) (fun c12 => ?_) (fun c12 => ?_)
    · refine z_aload_n dX1_addSnail_18 rfl ?_
      refine z_getR (b := (p + 4)) dX1_addSnail_19 fX1_21 (zP_r0 hp) (zm_sh_p0 hp) rfl rfl ?_
      refine z_iload_n dX1_addSnail_22 rfl ?_
      refine z_iload_n dX1_addSnail_23 rfl ?_
      refine z_niast dX1_addSnail_24 (zP_r hp 4 (by decide)) (zm_sh_p hp 4 (by decide)) (by omega) (by decide) (fun N24 hN24 => ?_)
      refine z_aload_n dX1_addSnail_25 rfl ?_
      refine z_getR (b := (p + 5)) dX1_addSnail_26 fX1_24 (zP_r0 hp) (zm_sh_p0 hp) rfl rfl ?_
      refine z_iload_n dX1_addSnail_29 rfl ?_
      refine z_iconst dX1_addSnail_30 ?_
      refine z_niast dX1_addSnail_31 (zP_r hp 5 (by decide)) (zm_sh_p hp 5 (by decide)) (by omega) (by decide) (fun N31 hN31 => ?_)
      refine z_aload_n dX1_addSnail_32 rfl ?_
      refine z_getR (b := (p + 6)) dX1_addSnail_33 fX1_27 (zP_r0 hp) (zm_sh_p0 hp) rfl rfl ?_
      refine z_iload_n dX1_addSnail_36 rfl ?_
      refine z_iload_n dX1_addSnail_37 rfl ?_
      refine z_niast dX1_addSnail_38 (zP_r hp 6 (by decide)) (zm_sh_p hp 6 (by decide)) (by omega) (by decide) (fun N38 hN38 => ?_)
      refine z_aload_n dX1_addSnail_39 rfl ?_
      refine z_dup dX1_addSnail_40 ?_
      refine z_getI (kI := 15) dX1_addSnail_41 fX1_67 (zP_r0 hp) (zm_sh_p0 hp) rfl rfl ?_
      refine z_iconst dX1_addSnail_44 ?_
      refine z_iadd dX1_addSnail_45 ?_
      refine z_nput (kI := 15) dX1_addSnail_46 fX1_67 rfl (Or.inl rfl) (zP_r0 hp) (zm_sh_p0 hp) rfl rfl (fun N46 hN46 => ?_)
      refine z_iload_n dX1_addSnail_49 rfl ?_
      refine z_iret dX1_addSnail_50 rfl ?_
      subst hN24
      subst hN31
      subst hN38
      subst hN46
      refine ⟨by rw [hR5], rel_come hR (by omega) (fun a q1 q2 q3 q4 => by rw [zm_up_off q4, zm_up_off q3, zm_up_off q2, zm_up_off q1]) (fun j => ?_) (fun j => ?_) (fun j => ?_) ?_ ?_, fun a ha => by repeat rw [zm_up_off (by omega)]⟩
      · rw [zm_up_off (by omega), zm_up_off (by omega), zm_up_off (by omega), zm_up_j, hR5]
      · rw [zm_up_off (by omega), zm_up_off (by omega), zm_up_j, zm_up_off (by omega), hR5]
      · rw [zm_up_off (by omega), zm_up_j, zm_up_off (by omega), zm_up_off (by omega), hR5]
      · rw [zm_up_at, zm_up_off (by omega), zm_up_off (by omega), zm_up_off (by omega), hR5]
      · rw [zm_up_ne (by omega), zm_up_off (by omega), zm_up_off (by omega), zm_up_off (by omega)]
    · exfalso; omega

theorem vX1_placeSnail {G : zG} {M : zM} {σ : zS} {p lane slime : Int} (hp : zP p) (hR : zRel M p σ) (hlane : -2147483648 ≤ lane ∧ lane < 2147483648) (hslime : -2147483648 ≤ slime ∧ slime < 2147483648) (h8 : σ 535 ≤ 8) (hI : zI σ) : zCall G yX1_placeSnail YX1_placeSnail [.inr (some p), .inl lane, .inl slime] M (fun v M' => (sBarS σ lane slime < 0 ∧ v = some (.inl (sBarS σ lane slime)) ∧ M' = M) ∨ (sBarS σ lane slime = 0 ∧ v = some (.inl (σ 535)) ∧ zRel M' p (sCome σ lane slime) ∧ zOff M M' p)) := by
  refine zEnter (by decide +kernel) rfl (Nat.le_of_ble_eq_true rfl) ?_
  have hs9 := hI.1
  unfold zIs at hs9
  have hR5 := hR.2.2.2.2.2.1
  have hR6 := hR.2.2.2.2.2.2
  have hR4 := hR.2.2.2.2.1
  refine z_iload_n dX1_placeSnail_0 rfl ?_
  refine z_if_lt (tgt := 10) dX1_placeSnail_1 (by decide) (by omega) (fun c1 => ?_) (fun c1 => ?_)
  · refine z_iconst dX1_placeSnail_10 ?_
    refine z_iret dX1_placeSnail_11 rfl ?_
    have hb : sBarS σ lane slime = -1 := by
      unfold sBarS
      repeat' split
      all_goals first | rfl | omega
    exact Or.inl ⟨by omega, by rw [hb], rfl⟩
  · refine z_iload_n dX1_placeSnail_4 rfl ?_
    refine z_bipush dX1_placeSnail_5 (by decide) ?_
    refine z_icmp_lt (tgt := 12) dX1_placeSnail_7 (by decide) (by omega) (by omega) (fun c7 => ?_) (fun c7 => ?_)
    · refine z_iload_n dX1_placeSnail_12 rfl ?_
      refine z_if_lt (tgt := 22) dX1_placeSnail_13 (by decide) (by omega) (fun c13 => ?_) (fun c13 => ?_)
      · refine z_bipush dX1_placeSnail_22 (by decide) ?_
        refine z_iret dX1_placeSnail_24 rfl ?_
        have hb : sBarS σ lane slime = -2 := by
          unfold sBarS
          repeat' split
          all_goals first | rfl | omega
        exact Or.inl ⟨by omega, by rw [hb], rfl⟩
      · refine z_iload_n dX1_placeSnail_16 rfl ?_
        refine z_bipush dX1_placeSnail_17 (by decide) ?_
        refine z_icmp_le (tgt := 25) dX1_placeSnail_19 (by decide) (by omega) (by omega) (fun c19 => ?_) (fun c19 => ?_)
        · have hso := sOn_r hI lane 0
          refine z_aload_n dX1_placeSnail_25 rfl ?_
          refine z_iload_n dX1_placeSnail_26 rfl ?_
          refine z_iconst dX1_placeSnail_27 ?_
          refine z_callV mX1_snailOn (vX1_snailOn hp hR (by omega) (by omega) hI) rfl dX1_placeSnail_28 kX1_84 (by decide) rfl (by show _ ≤ 8; simp) (zP_r0 hp) (zm_sh_p0 hp) (by decide) rfl (fun v28 M28 q28 => ?_)
          obtain ⟨rfl, rfl⟩ := q28
          try simp only [zpush]
          refine z_bipush dX1_placeSnail_31 (by decide) ?_
          refine z_icmp_eq (tgt := 39) dX1_placeSnail_33 (by decide) (by omega) (by omega) (fun c33 => ?_) (fun c33 => ?_)
          · refine z_aload_n dX1_placeSnail_39 rfl ?_
            refine z_getI (kI := 15) dX1_placeSnail_40 fX1_67 (zP_r0 hp) (zm_sh_p0 hp) rfl rfl ?_
            refine z_bipush dX1_placeSnail_43 (by decide) ?_
            refine z_icmp_ge (tgt := 57) dX1_placeSnail_45 (by decide) (by omega) (by omega) (fun c45 => ?_) (fun c45 => ?_)
            · refine z_bipush dX1_placeSnail_57 (by decide) ?_
              refine z_iret dX1_placeSnail_59 rfl ?_
              first
                | exact Or.inr ⟨by unfold sBarS; rw [if_neg (by omega), if_neg (by omega), if_neg (by omega), if_neg (by omega)], rfl, hR51, hO51⟩
                | exact Or.inl ⟨by unfold sBarS; rw [if_neg (by omega), if_neg (by omega), if_neg (by omega), if_pos (by omega)]; decide, by unfold sBarS; rw [if_neg (by omega), if_neg (by omega), if_neg (by omega), if_pos (by omega)], rfl⟩
            · refine z_aload_n dX1_placeSnail_48 rfl ?_
              refine z_iload_n dX1_placeSnail_49 rfl ?_
              refine z_iload_n dX1_placeSnail_50 rfl ?_
              refine z_callV mX1_addSnail (vX1_addSnail hp hR (by omega) hI) rfl dX1_placeSnail_51 kX1_88 (by decide) rfl (by show _ ≤ 8; simp) (zP_r0 hp) (zm_sh_p0 hp) (by decide) rfl (fun v51 M51 q51 => ?_)
              obtain ⟨rfl, hR51, hO51⟩ := q51
              try simp only [zpush]
              refine z_goto (tgt := 59) dX1_placeSnail_54 (by decide) ?_
              refine z_iret dX1_placeSnail_59 rfl ?_
              first
                | exact Or.inr ⟨by unfold sBarS; rw [if_neg (by omega), if_neg (by omega), if_neg (by omega), if_neg (by omega)], rfl, hR51, hO51⟩
                | exact Or.inl ⟨by unfold sBarS; rw [if_neg (by omega), if_neg (by omega), if_neg (by omega), if_pos (by omega)]; decide, by unfold sBarS; rw [if_neg (by omega), if_neg (by omega), if_neg (by omega), if_pos (by omega)], rfl⟩
          · refine z_bipush dX1_placeSnail_36 (by decide) ?_
            refine z_iret dX1_placeSnail_38 rfl ?_
            have hb : sBarS σ lane slime = -4 := by
              unfold sBarS
              repeat' split
              all_goals first | rfl | omega
            exact Or.inl ⟨by omega, by rw [hb], rfl⟩
        · refine z_bipush dX1_placeSnail_22 (by decide) ?_
          refine z_iret dX1_placeSnail_24 rfl ?_
          have hb : sBarS σ lane slime = -2 := by
            unfold sBarS
            repeat' split
            all_goals first | rfl | omega
          exact Or.inl ⟨by omega, by rw [hb], rfl⟩
    · refine z_iconst dX1_placeSnail_10 ?_
      refine z_iret dX1_placeSnail_11 rfl ?_
      have hb : sBarS σ lane slime = -1 := by
        unfold sBarS
        repeat' split
        all_goals first | rfl | omega
      exact Or.inl ⟨by omega, by rw [hb], rfl⟩

theorem vX1_removeSnail {G : zG} {M : zM} {σ : zS} {p k : Int} (hp : zP p) (hR : zRel M p σ) (hk : -2147483648 ≤ k ∧ k < 2147483648) (hI : zI σ) : zCall G yX1_removeSnail YX1_removeSnail [.inr (some p), .inl k] M (fun v M' => (¬ (0 ≤ k ∧ k < σ 535) ∧ v = some (.inl (-1)) ∧ M' = M) ∨ ((0 ≤ k ∧ k < σ 535) ∧ ¬ σ (360 + 10 * k + 3) = 0 ∧ v = some (.inl (-4)) ∧ M' = M) ∨ ((0 ≤ k ∧ k < σ 535) ∧ σ (360 + 10 * k + 3) = 0 ∧ v = some (.inl (σ (360 + 10 * k + 1))) ∧ zRel M' p (zu σ (360 + 10 * k + 3) 2) ∧ zOff M M' p)) := by
  refine zEnter (by decide +kernel) rfl (Nat.le_of_ble_eq_true rfl) ?_
  have hs9 := hI.1
  unfold zIs at hs9
  have hR5 := hR.2.2.2.2.2.1
  have hR6 := hR.2.2.2.2.2.2
  have hR4 := hR.2.2.2.2.1
  refine z_aload_n dX1_removeSnail_0 rfl ?_
  refine z_iload_n dX1_removeSnail_1 rfl ?_
  refine z_callV mX1_knows (vX1_knows hp hR (by omega) hI) rfl dX1_removeSnail_2 kX1_91 (by decide) rfl (by show _ ≤ 8; simp) (zP_r0 hp) (zm_sh_p0 hp) (by decide) rfl (fun v2 M2 q2 => ?_)
  obtain ⟨rfl, b2, rfl, h2⟩ := q2
  try simp only [zpush]
  refine z_if_ne (tgt := 10) dX1_removeSnail_5 (by decide) (by omega) (fun c5 => ?_) (fun c5 => ?_)
  · refine z_aload_n dX1_removeSnail_10 rfl ?_
    refine z_iload_n dX1_removeSnail_11 rfl ?_
    refine z_callV mX1_creeps (vX1_creeps hp hR (by omega) hI) rfl dX1_removeSnail_12 kX1_95 (by decide) rfl (by show _ ≤ 8; simp) (zP_r0 hp) (zm_sh_p0 hp) (by decide) rfl (fun v12 M12 q12 => ?_)
    obtain ⟨rfl, b12, rfl, h12⟩ := q12
    try simp only [zpush]
    refine z_if_ne (tgt := 21) dX1_removeSnail_15 (by decide) (by omega) (fun c15 => ?_) (fun c15 => ?_)
    · have hk9 := hI.2.2 k (by omega) (by omega)
      unfold zIk at hk9
      have hkR := hR.2.1 k (by omega) (by omega)
      unfold zRk at hkR
      refine z_aload_n dX1_removeSnail_21 rfl ?_
      refine z_getR (b := (p + 7)) dX1_removeSnail_22 fX1_30 (zP_r0 hp) (zm_sh_p0 hp) rfl rfl ?_
      refine z_iload_n dX1_removeSnail_25 rfl ?_
      refine z_iconst dX1_removeSnail_26 ?_
      refine z_niast dX1_removeSnail_27 (zP_r hp 7 (by decide)) (zm_sh_p hp 7 (by decide)) (by omega) (by decide) (fun N27 hN27 => ?_)
      refine z_aload_n dX1_removeSnail_28 rfl ?_
      refine z_getR (b := (p + 5)) dX1_removeSnail_29 fX1_24 (zP_r0 hp) (zm_sh_p0 hp) rfl rfl ?_
      refine z_iload_n dX1_removeSnail_32 rfl ?_
      refine z_iaload dX1_removeSnail_33 (zP_r hp 5 (by decide)) (zm_sh_p hp 5 (by decide)) (by omega) (by decide) ?_
      refine z_iret dX1_removeSnail_34 rfl ?_
      subst hN27
      exact Or.inr (Or.inr ⟨by omega, by omega, by rw [zm_up_off (by omega), hkR.2.1], rel_off hR hI (by omega), fun a ha => by repeat rw [zm_up_off (by omega)]⟩)
    · refine z_bipush dX1_removeSnail_18 (by decide) ?_
      refine z_iret dX1_removeSnail_20 rfl ?_
      exact Or.inr (Or.inl ⟨by omega, by omega, rfl, rfl⟩)
  · refine z_iconst dX1_removeSnail_8 ?_
    refine z_iret dX1_removeSnail_9 rfl ?_
    exact Or.inl ⟨by omega, rfl, rfl⟩

theorem vX1_changeFrost {G : zG} {M : zM} {σ : zS} {p lane row f : Int} (hp : zP p) (hR : zRel M p σ) (hlane : -2147483648 ≤ lane ∧ lane < 2147483648) (hrow : -2147483648 ≤ row ∧ row < 2147483648) (hf : -2147483648 ≤ f ∧ f < 2147483648) (hI : zI σ) : zCall G yX1_changeFrost YX1_changeFrost [.inr (some p), .inl lane, .inl row, .inl f] M (fun v M' => (sBarF σ lane row f < 0 ∧ v = some (.inl (sBarF σ lane row f)) ∧ M' = M) ∨ (sBarF σ lane row f = 0 ∧ v = some (.inl (σ (6 * row + lane))) ∧ zRel M' p (sFz σ (6 * row + lane) f) ∧ zOff M M' p)) := by
  refine zEnter (by decide +kernel) rfl (Nat.le_of_ble_eq_true rfl) ?_
  have hs9 := hI.1
  unfold zIs at hs9
  have hR5 := hR.2.2.2.2.2.1
  have hR6 := hR.2.2.2.2.2.2
  have hR4 := hR.2.2.2.2.1
  refine z_iload_n dX1_changeFrost_0 rfl ?_
  refine z_iload_n dX1_changeFrost_1 rfl ?_
  refine z_callSN mX4_cellAt (vX4_cellAt (by omega) (by omega)) rfl dX1_changeFrost_2 kX1_98 (by decide) rfl (by show _ ≤ 8; simp) (fun v2 M2 q2 => ?_)
  obtain ⟨rfl, c2, rfl, h2⟩ := q2
  try simp only [zpush]
  refine z_istore dX1_changeFrost_5 (by decide) ?_
  refine z_iload dX1_changeFrost_7 rfl ?_
  refine z_iconst dX1_changeFrost_9 ?_
  refine z_icmp_ne (tgt := 15) dX1_changeFrost_10 (by decide) (by omega) (by omega) (fun c10 => ?_) (fun c10 => ?_)
  · have hce : c2 = 6 * row + lane := by omega
    subst hce
    have hc9 := hI.2.1 (6 * row + lane) (by omega) (by omega)
    unfold zIc at hc9
    have hcR := hR.1 (6 * row + lane) (by omega) (by omega)
    unfold zRc at hcR
    refine z_iload_n dX1_changeFrost_15 rfl ?_
    refine z_if_lt (tgt := 25) dX1_changeFrost_16 (by decide) (by omega) (fun c16 => ?_) (fun c16 => ?_)
    · refine z_bipush dX1_changeFrost_25 (by decide) ?_
      refine z_iret dX1_changeFrost_27 rfl ?_
      have hb : sBarF σ lane row f = -2 := by
        unfold sBarF
        repeat' split
        all_goals first | rfl | omega
      exact Or.inl ⟨by omega, by rw [hb], rfl⟩
    · refine z_iload_n dX1_changeFrost_19 rfl ?_
      refine z_bipush dX1_changeFrost_20 (by decide) ?_
      refine z_icmp_le (tgt := 28) dX1_changeFrost_22 (by decide) (by omega) (by omega) (fun c22 => ?_) (fun c22 => ?_)
      · refine z_aload_n dX1_changeFrost_28 rfl ?_
        refine z_getR (b := (p + 1)) dX1_changeFrost_29 fX1_9 (zP_r0 hp) (zm_sh_p0 hp) rfl rfl ?_
        refine z_iload dX1_changeFrost_32 rfl ?_
        refine z_iaload dX1_changeFrost_34 (zP_r hp 1 (by decide)) (zm_sh_p hp 1 (by decide)) (by omega) (by decide) ?_
        refine z_istore dX1_changeFrost_35 (by decide) ?_
        refine z_iload dX1_changeFrost_37 rfl ?_
        refine z_iload_n dX1_changeFrost_39 rfl ?_
        refine z_icmp_ne (tgt := 58) dX1_changeFrost_40 (by decide) (by omega) (by omega) (fun c40 => ?_) (fun c40 => ?_)
        · refine z_aload_n dX1_changeFrost_58 rfl ?_
          refine z_getR (b := (p + 1)) dX1_changeFrost_59 fX1_9 (zP_r0 hp) (zm_sh_p0 hp) rfl rfl ?_
          refine z_iload dX1_changeFrost_62 rfl ?_
          refine z_iload_n dX1_changeFrost_64 rfl ?_
          refine z_niast dX1_changeFrost_65 (zP_r hp 1 (by decide)) (zm_sh_p hp 1 (by decide)) (by omega) (by decide) (fun N65 hN65 => ?_)
          refine z_aload_n dX1_changeFrost_66 rfl ?_
          refine z_iload dX1_changeFrost_67 rfl ?_
          refine z_callV mX1_clearTrail (vX1_clearTrail hp (by omega)) rfl dX1_changeFrost_69 kX1_101 (by decide) rfl (by show _ ≤ 8; simp) (zP_r0 hp) (zm_sh_p0 hp) (by decide) rfl (fun v69 M69 q69 => ?_)
          obtain ⟨rfl, rfl⟩ := q69
          try simp only [zpush]
          refine z_iload dX1_changeFrost_72 rfl ?_
          refine z_iret dX1_changeFrost_74 rfl ?_
          subst hN65
          exact Or.inr ⟨by unfold sBarF; rw [if_neg (by omega), if_neg (by omega), if_neg (by omega)], by rw [hcR.1], rel_fz hR hI (by omega), fun a ha => by repeat rw [zm_up_off (by omega)]⟩
        · refine z_aload_n dX1_changeFrost_43 rfl ?_
          refine z_getR (b := (p + 2)) dX1_changeFrost_44 fX1_15 (zP_r0 hp) (zm_sh_p0 hp) rfl rfl ?_
          refine z_iload dX1_changeFrost_47 rfl ?_
          refine z_iaload dX1_changeFrost_49 (zP_r hp 2 (by decide)) (zm_sh_p hp 2 (by decide)) (by omega) (by decide) ?_
          refine z_bipush dX1_changeFrost_50 (by decide) ?_
          refine z_icmp_ne (tgt := 58) dX1_changeFrost_52 (by decide) (by omega) (by omega) (fun c52 => ?_) (fun c52 => ?_)
          · refine z_aload_n dX1_changeFrost_58 rfl ?_
            refine z_getR (b := (p + 1)) dX1_changeFrost_59 fX1_9 (zP_r0 hp) (zm_sh_p0 hp) rfl rfl ?_
            refine z_iload dX1_changeFrost_62 rfl ?_
            refine z_iload_n dX1_changeFrost_64 rfl ?_
            refine z_niast dX1_changeFrost_65 (zP_r hp 1 (by decide)) (zm_sh_p hp 1 (by decide)) (by omega) (by decide) (fun N65 hN65 => ?_)
            refine z_aload_n dX1_changeFrost_66 rfl ?_
            refine z_iload dX1_changeFrost_67 rfl ?_
            refine z_callV mX1_clearTrail (vX1_clearTrail hp (by omega)) rfl dX1_changeFrost_69 kX1_101 (by decide) rfl (by show _ ≤ 8; simp) (zP_r0 hp) (zm_sh_p0 hp) (by decide) rfl (fun v69 M69 q69 => ?_)
            obtain ⟨rfl, rfl⟩ := q69
            try simp only [zpush]
            refine z_iload dX1_changeFrost_72 rfl ?_
            refine z_iret dX1_changeFrost_74 rfl ?_
            subst hN65
            exact Or.inr ⟨by unfold sBarF; rw [if_neg (by omega), if_neg (by omega), if_neg (by omega)], by rw [hcR.1], rel_fz hR hI (by omega), fun a ha => by repeat rw [zm_up_off (by omega)]⟩
          · refine z_bipush dX1_changeFrost_55 (by decide) ?_
            refine z_iret dX1_changeFrost_57 rfl ?_
            have hb : sBarF σ lane row f = -5 := by
              unfold sBarF
              repeat' split
              all_goals first | rfl | omega
            exact Or.inl ⟨by omega, by rw [hb], rfl⟩
      · refine z_bipush dX1_changeFrost_25 (by decide) ?_
        refine z_iret dX1_changeFrost_27 rfl ?_
        have hb : sBarF σ lane row f = -2 := by
          unfold sBarF
          repeat' split
          all_goals first | rfl | omega
        exact Or.inl ⟨by omega, by rw [hb], rfl⟩
  · refine z_iconst dX1_changeFrost_13 ?_
    refine z_iret dX1_changeFrost_14 rfl ?_
    have hb : sBarF σ lane row f = -1 := by
      unfold sBarF
      repeat' split
      all_goals first | rfl | omega
    exact Or.inl ⟨by omega, by rw [hb], rfl⟩

theorem vX1_dryTrails {G : zG} {M : zM} {p t : Int} (hp : zP p) (ht : 0 ≤ t ∧ t ≤ 1) (hC : ∀ c : Int, 0 ≤ c → c < 120 → (-5 ≤ M (p + 2) c ∧ M (p + 2) c ≤ 9) ∧ (-5 ≤ M (p + 3) c ∧ M (p + 3) c ≤ 100)) (hS : 0 ≤ M (p + 24) 0 ∧ M (p + 24) 0 ≤ 99) : zCall G yX1_dryTrails YX1_dryTrails [.inr (some p), .inl t] M (fun v M' => v = none ∧ zDr M p t 120 M') := by
  refine zEnter (by decide +kernel) rfl (Nat.le_of_ble_eq_true rfl) ?_
  refine z_iconst dX1_dryTrails_0 ?_
  refine z_istore_n dX1_dryTrails_1 (by decide) ?_
  have L : ∀ (n : Nat) (i : Int) (N : zM), (0 ≤ i ∧ i ≤ 120) → (i + n = 121) → (zDr M p t i N) → zW G YX1_dryTrails (fun v M' => v = none ∧ zDr M p t 120 M') 2 [(2, .inl i), (0, .inr (some p)), (1, .inl t)] [] N := by
    intro n
    induction n with
    | zero => intro i N hi hin hN; exfalso; omega
    | succ n ih =>
      intro i N hi hin hN
      refine z_iload_n dX1_dryTrails_2 rfl ?_
      refine z_bipush dX1_dryTrails_3 (by decide) ?_
      refine z_icmp_ge (tgt := 55) dX1_dryTrails_5 (by decide) (by omega) (by omega) (fun c5 => ?_) (fun c5 => ?_)
      · refine z_vret dX1_dryTrails_55 rfl ?_
        refine ⟨rfl, ?_⟩
        have hi0 : i = 120 := by omega
        subst hi0
        exact hN
      · have g2 := hN.2.2 i (by omega) (by omega)
        have gc := hC i (by omega) (by omega)
        refine z_aload_n dX1_dryTrails_8 rfl ?_
        refine z_getR (b := (p + 2)) dX1_dryTrails_9 fX1_15 (zP_r0 hp) (zm_sh_p0 hp) rfl rfl ?_
        refine z_iload_n dX1_dryTrails_12 rfl ?_
        refine z_iaload dX1_dryTrails_13 (zP_r hp 2 (by decide)) (zm_sh_p hp 2 (by decide)) (by omega) (by decide) ?_
        refine z_bipush dX1_dryTrails_14 (by decide) ?_
        refine z_icmp_eq (tgt := 49) dX1_dryTrails_16 (by decide) (by omega) (by omega) (fun c16 => ?_) (fun c16 => ?_)
        · refine z_iinc dX1_dryTrails_49 rfl (by decide) ?_
          refine z_goto (tgt := 2) dX1_dryTrails_52 (by decide) ?_
          refine zsub' (ih (i + 1) _ (by omega) (by omega) ?_) ⟨rfl, rfl, rfl, trivial⟩
          first
            | exact hN.skip (by omega) (by omega)
            | (subst hN28; exact hN.age (by omega) (by omega) (by omega))
            | (subst hN28; exact hN.clr (by omega) (by omega) (by omega))
        · refine z_aload_n dX1_dryTrails_19 rfl ?_
          refine z_getR (b := (p + 3)) dX1_dryTrails_20 fX1_18 (zP_r0 hp) (zm_sh_p0 hp) rfl rfl ?_
          refine z_iload_n dX1_dryTrails_23 rfl ?_
          refine z_dup2 dX1_dryTrails_24 ?_
          refine z_iaload dX1_dryTrails_25 (zP_r hp 3 (by decide)) (zm_sh_p hp 3 (by decide)) (by omega) (by decide) ?_
          refine z_iload_n dX1_dryTrails_26 rfl ?_
          refine z_iadd dX1_dryTrails_27 ?_
          refine z_niast dX1_dryTrails_28 (zP_r hp 3 (by decide)) (zm_sh_p hp 3 (by decide)) (by omega) (by decide) (fun N28 hN28 => ?_)
          have g3 : N28 (p + 3) i = N (p + 3) i + t := by rw [hN28, zm_up_at]
          have g4 : N28 (p + 24) 0 = M (p + 24) 0 := by rw [hN28, zm_up_off (by omega), hN.1 (p + 24) (by omega) (by omega)]
          refine z_aload_n dX1_dryTrails_29 rfl ?_
          refine z_getR (b := (p + 3)) dX1_dryTrails_30 fX1_18 (zP_r0 hp) (zm_sh_p0 hp) rfl rfl ?_
          refine z_iload_n dX1_dryTrails_33 rfl ?_
          refine z_iaload dX1_dryTrails_34 (zP_r hp 3 (by decide)) (zm_sh_p hp 3 (by decide)) (by omega) (by decide) ?_
          refine z_aload_n dX1_dryTrails_35 rfl ?_
          refine z_getR (b := (p + 24)) dX1_dryTrails_36 fX1_64 (zP_r0 hp) (zm_sh_p0 hp) rfl rfl ?_
          refine z_iconst dX1_dryTrails_39 ?_
          refine z_iaload dX1_dryTrails_40 (zP_r hp 24 (by decide)) (zm_sh_p hp 24 (by decide)) (by omega) (by decide) ?_
          refine z_icmp_le (tgt := 49) dX1_dryTrails_41 (by decide) (by omega) (by omega) (fun c41 => ?_) (fun c41 => ?_)
          · refine z_iinc dX1_dryTrails_49 rfl (by decide) ?_
            refine z_goto (tgt := 2) dX1_dryTrails_52 (by decide) ?_
            refine zsub' (ih (i + 1) _ (by omega) (by omega) ?_) ⟨rfl, rfl, rfl, trivial⟩
            first
              | exact hN.skip (by omega) (by omega)
              | (subst hN28; exact hN.age (by omega) (by omega) (by omega))
              | (subst hN28; exact hN.clr (by omega) (by omega) (by omega))
          · refine z_aload_n dX1_dryTrails_44 rfl ?_
            refine z_iload_n dX1_dryTrails_45 rfl ?_
            refine z_callV mX1_clearTrail (vX1_clearTrail hp (by omega)) rfl dX1_dryTrails_46 kX1_101 (by decide) rfl (by show _ ≤ 8; simp) (zP_r0 hp) (zm_sh_p0 hp) (by decide) rfl (fun v46 M46 q46 => ?_)
            obtain ⟨rfl, rfl⟩ := q46
            try simp only [zpush]
            refine z_iinc dX1_dryTrails_49 rfl (by decide) ?_
            refine z_goto (tgt := 2) dX1_dryTrails_52 (by decide) ?_
            refine zsub' (ih (i + 1) _ (by omega) (by omega) ?_) ⟨rfl, rfl, rfl, trivial⟩
            first
              | exact hN.skip (by omega) (by omega)
              | (subst hN28; exact hN.age (by omega) (by omega) (by omega))
              | (subst hN28; exact hN.clr (by omega) (by omega) (by omega))
  exact zsub' (L 121 0 M (by omega) (by omega) (zDr.rf M p t)) ⟨rfl, rfl, rfl, trivial⟩

theorem vX1_growFrost {G : zG} {M : zM} {p : Int} (hp : zP p) (hC : ∀ c : Int, 0 ≤ c → c < 120 → (-5 ≤ M (p + 2) c ∧ M (p + 2) c ≤ 9) ∧ (0 ≤ M (p + 1) c ∧ M (p + 1) c ≤ 9)) : zCall G yX1_growFrost YX1_growFrost [.inr (some p)] M (fun v M' => v = none ∧ zGr M p 120 M') := by
  refine zEnter (by decide +kernel) rfl (Nat.le_of_ble_eq_true rfl) ?_
  refine z_iconst dX1_growFrost_0 ?_
  refine z_istore_n dX1_growFrost_1 (by decide) ?_
  have L : ∀ (n : Nat) (i : Int) (N : zM), (0 ≤ i ∧ i ≤ 120) → (i + n = 121) → (zGr M p i N) → zW G YX1_growFrost (fun v M' => v = none ∧ zGr M p 120 M') 2 [(1, .inl i), (0, .inr (some p))] [] N := by
    intro n
    induction n with
    | zero => intro i N hi hin hN; exfalso; omega
    | succ n ih =>
      intro i N hi hin hN
      refine z_iload_n dX1_growFrost_2 rfl ?_
      refine z_bipush dX1_growFrost_3 (by decide) ?_
      refine z_icmp_ge (tgt := 46) dX1_growFrost_5 (by decide) (by omega) (by omega) (fun c5 => ?_) (fun c5 => ?_)
      · refine z_vret dX1_growFrost_46 rfl ?_
        refine ⟨rfl, ?_⟩
        have hi0 : i = 120 := by omega
        subst hi0
        exact hN
      · have g2 := hN.2.2 i (by omega) (by omega)
        have g1 : N (p + 2) i = M (p + 2) i := by rw [hN.1 (p + 2) (by omega)]
        have gc := hC i (by omega) (by omega)
        refine z_aload_n dX1_growFrost_8 rfl ?_
        refine z_getR (b := (p + 2)) dX1_growFrost_9 fX1_15 (zP_r0 hp) (zm_sh_p0 hp) rfl rfl ?_
        refine z_iload_n dX1_growFrost_12 rfl ?_
        refine z_iaload dX1_growFrost_13 (zP_r hp 2 (by decide)) (zm_sh_p hp 2 (by decide)) (by omega) (by decide) ?_
        refine z_bipush dX1_growFrost_14 (by decide) ?_
        refine z_icmp_ne (tgt := 40) dX1_growFrost_16 (by decide) (by omega) (by omega) (fun c16 => ?_) (fun c16 => ?_)
        · refine z_iinc dX1_growFrost_40 rfl (by decide) ?_
          refine z_goto (tgt := 2) dX1_growFrost_43 (by decide) ?_
          refine zsub' (ih (i + 1) _ (by omega) (by omega) ?_) ⟨rfl, rfl, trivial⟩
          first
            | exact hN.no (by omega) (by omega)
            | (subst hN39; exact hN.up (by omega) (by omega))
        · refine z_aload_n dX1_growFrost_19 rfl ?_
          refine z_getR (b := (p + 1)) dX1_growFrost_20 fX1_9 (zP_r0 hp) (zm_sh_p0 hp) rfl rfl ?_
          refine z_iload_n dX1_growFrost_23 rfl ?_
          refine z_iaload dX1_growFrost_24 (zP_r hp 1 (by decide)) (zm_sh_p hp 1 (by decide)) (by omega) (by decide) ?_
          refine z_bipush dX1_growFrost_25 (by decide) ?_
          refine z_icmp_ge (tgt := 40) dX1_growFrost_27 (by decide) (by omega) (by omega) (fun c27 => ?_) (fun c27 => ?_)
          · refine z_iinc dX1_growFrost_40 rfl (by decide) ?_
            refine z_goto (tgt := 2) dX1_growFrost_43 (by decide) ?_
            refine zsub' (ih (i + 1) _ (by omega) (by omega) ?_) ⟨rfl, rfl, trivial⟩
            first
              | exact hN.no (by omega) (by omega)
              | (subst hN39; exact hN.up (by omega) (by omega))
          · refine z_aload_n dX1_growFrost_30 rfl ?_
            refine z_getR (b := (p + 1)) dX1_growFrost_31 fX1_9 (zP_r0 hp) (zm_sh_p0 hp) rfl rfl ?_
            refine z_iload_n dX1_growFrost_34 rfl ?_
            refine z_dup2 dX1_growFrost_35 ?_
            refine z_iaload dX1_growFrost_36 (zP_r hp 1 (by decide)) (zm_sh_p hp 1 (by decide)) (by omega) (by decide) ?_
            refine z_iconst dX1_growFrost_37 ?_
            refine z_iadd dX1_growFrost_38 ?_
            refine z_niast dX1_growFrost_39 (zP_r hp 1 (by decide)) (zm_sh_p hp 1 (by decide)) (by omega) (by decide) (fun N39 hN39 => ?_)
            refine z_iinc dX1_growFrost_40 rfl (by decide) ?_
            refine z_goto (tgt := 2) dX1_growFrost_43 (by decide) ?_
            refine zsub' (ih (i + 1) _ (by omega) (by omega) ?_) ⟨rfl, rfl, trivial⟩
            first
              | exact hN.no (by omega) (by omega)
              | (subst hN39; exact hN.up (by omega) (by omega))
  exact zsub' (L 121 0 M (by omega) (by omega) (zGr.rf M p)) ⟨rfl, rfl, trivial⟩

