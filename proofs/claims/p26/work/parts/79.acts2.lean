theorem tS0_r (j : Int) (x : wTt) : x.2 ≤ (tS0 j x).2 ∧ (tS0 j x).2 ≤ x.2 + 1 := by unfold tS0 tA; split <;> ((try dsimp only); omega)
theorem tS1_r (k : Int) (x : wTt) : (tS1 k x).2 = x.2 + 1 := rfl
theorem tS2_r (k z : Int) (x : wTt) : (tS2 k z x).2 = x.2 + 1 := rfl
theorem tS3_r (k : Int) (x : wTt) : x.2 ≤ (tS3 k x).2 ∧ (tS3 k x).2 ≤ x.2 + (if k < 2 then 1 else 0) := by unfold tS3 tA; split <;> ((try dsimp only); omega)
theorem tS4_r (k z : Int) (x : wTt) : x.2 ≤ (tS4 k z x).2 ∧ (tS4 k z x).2 ≤ x.2 + (if k < 2 then 1 else 0) := by unfold tS4 tA; split <;> ((try dsimp only); omega)
theorem tS5_r (k z : Int) (x : wTt) : x.2 ≤ (tS5 k z x).2 ∧ (tS5 k z x).2 ≤ x.2 + (if k = 0 then 1 else 0) := by unfold tS5 tA; split <;> ((try dsimp only); omega)
theorem tS6_r (k : Int) (x : wTt) : x.2 ≤ (tS6 k x).2 ∧ (tS6 k x).2 ≤ x.2 + (if k = 1 then 1 else 0) := by unfold tS6 tA; split <;> ((try dsimp only); omega)
theorem tS7_r (k z : Int) (x : wTt) : x.2 ≤ (tS7 k z x).2 ∧ (tS7 k z x).2 ≤ x.2 + (if k = 1 then 1 else 0) := by unfold tS7 tA; split <;> ((try dsimp only); omega)
theorem tStep_r (y j : Int) (x : wTt) : x.2 ≤ (tStep y j x).2 ∧ (tStep y j x).2 ≤ x.2 + 7 := by
  unfold tStep
  generalize tZ y j = z
  have h0 := tS0_r j x
  generalize tS0 j x = x0 at h0 ⊢
  have h1 := tS1_r (z % 3) x0
  generalize tS1 (z % 3) x0 = x1 at h1 ⊢
  have h2 := tS2_r (z % 3) z x1
  generalize tS2 (z % 3) z x1 = x2 at h2 ⊢
  have h3 := tS3_r (z % 3) x2
  generalize tS3 (z % 3) x2 = x3 at h3 ⊢
  have h4 := tS4_r (z % 3) z x3
  generalize tS4 (z % 3) z x3 = x4 at h4 ⊢
  have h5 := tS5_r (z % 3) z x4
  generalize tS5 (z % 3) z x4 = x5 at h5 ⊢
  have h6 := tS6_r (z % 3) x5
  generalize tS6 (z % 3) x5 = x6 at h6 ⊢
  have h7 := tS7_r (z % 3) z x6
  generalize tS7 (z % 3) z x6 = x7 at h7 ⊢
  have hk := Int.emod_nonneg z (show (3 : Int) ≠ 0 by decide)
  rcases (show z % 3 = 0 ∨ z % 3 = 1 ∨ (z % 3 ≠ 0 ∧ z % 3 ≠ 1) by omega) with q | q | q
  · rw [q] at h3 h4 h5 h6 h7
    simp at h3 h4 h5 h6 h7
    omega
  · rw [q] at h3 h4 h5 h6 h7
    simp at h3 h4 h5 h6 h7
    omega
  · rw [if_neg (by omega)] at h3 h4 h5 h6 h7
    omega

theorem acZt {G : zG} {Q : Option zV → zM → Prop} {b : Int} {A : wAb} {M : zM} {c j e : Int} {x : wTt} (hO : zO b M A) (hc : 0 ≤ c ∧ c < 2147483648) (hj : 0 ≤ j ∧ j ≤ 3) (ht : wTx M x.1 x.2) (kk : ∀ N : zM, zO b N A → wTx N x.1 x.2 → zW G YL_acts Q 240 [(7, .inl (tZ (c / 32) j % 3)), (6, .inl (tZ (c / 32) j)), (5, .inl j), (4, .inl e), (2, .inl (c / 32)), (3, .inl (A.1 535)), (1, .inl c), (0, .inr (some 175))] [] N) : zW G YL_acts Q 223 [(5, .inl j), (4, .inl e), (2, .inl (c / 32)), (3, .inl (A.1 535)), (1, .inl c), (0, .inr (some 175))] [] M := by
  refine z_iload_n dL_acts_223 rfl ?_
  refine z_iconst dL_acts_224 ?_
  refine z_idiv dL_acts_225 (by omega) (by decide) ?_
  refine z_bipush dL_acts_226 (by decide) ?_
  refine z_iload dL_acts_228 rfl ?_
  refine z_imul dL_acts_230 ?_
  refine z_ishr dL_acts_231 (by omega) (by omega) ?_
  have hz : 0 ≤ tZ (c / 32) j ∧ tZ (c / 32) j < 2147483648 := tZ_r (by omega)
  have ez : c / 32 / 4 / 2 ^ (6 * j).toNat = tZ (c / 32) j := rfl
  rw [ez]
  refine z_istore dL_acts_232 (by decide) ?_
  refine z_iload dL_acts_234 rfl ?_
  refine z_iconst dL_acts_236 ?_
  refine z_irem dL_acts_237 (by omega) (by decide) ?_
  refine z_istore dL_acts_238 (by decide) ?_
  exact zsub' (kk _ hO ht) ⟨rfl, rfl, rfl, rfl, rfl, rfl, rfl, rfl, trivial⟩

theorem acB {G : zG} {Q : Option zV → zM → Prop} {b : Int} {A : wAb} {M : zM} {c j e : Int} {x : wTt} (hO : zO b M A) (hc : 0 ≤ c ∧ c < 2147483648) (hj : 0 ≤ j ∧ j ≤ 3) (ht : wTx M x.1 x.2) (hx : 0 ≤ x.2 ∧ x.2 ≤ 28) (he : 0 ≤ e ∧ e ≤ 60) (kk : ∀ N : zM, zO b N A → ∀ e2 : Int, (0 ≤ e2 ∧ e2 ≤ 60) → 1 ≤ e2 → wTx N (tStep (c / 32) j x).1 (tStep (c / 32) j x).2 → zW G YL_acts Q 456 [(7, .inl (tZ (c / 32) j % 3)), (6, .inl (tZ (c / 32) j)), (5, .inl j), (4, .inl e2), (2, .inl (c / 32)), (3, .inl (A.1 535)), (1, .inl c), (0, .inr (some 175))] [] N) : zW G YL_acts Q 223 [(5, .inl j), (4, .inl e), (2, .inl (c / 32)), (3, .inl (A.1 535)), (1, .inl c), (0, .inr (some 175))] [] M := by
  have h0 := tS0_r j x
  have h1 := tS1_r (tZ (c / 32) j % 3) (tS0 j x)
  have h2 := tS2_r (tZ (c / 32) j % 3) (tZ (c / 32) j) (tS1 (tZ (c / 32) j % 3) (tS0 j x))
  refine acZt hO hc hj ht (fun N hO ht => ?_)
  refine acT0 hO hc hj ht (by omega) he (fun N hO e he ht => ?_)
  refine acT1 hO hc hj ht (by omega) he (fun N hO e he he1 ht => ?_)
  refine acT2 hO hc hj ht (by omega) he (fun N hO e he he1 ht => ?_)
  unfold tStep at kk
  generalize tS2 (tZ (c / 32) j % 3) (tZ (c / 32) j) (tS1 (tZ (c / 32) j % 3) (tS0 j x)) = x2 at h2 ht kk
  have h3 := tS3_r (tZ (c / 32) j % 3) x2
  refine acT3 hO hc hj ht (by omega) he he1 (fun N hO e he he1 ht => ?_)
  generalize tS3 (tZ (c / 32) j % 3) x2 = x3 at h3 ht kk
  have h4 := tS4_r (tZ (c / 32) j % 3) (tZ (c / 32) j) x3
  refine acT4 hO hc hj ht (by split at h3 <;> omega) he he1 (fun N hO e he he1 ht => ?_)
  generalize tS4 (tZ (c / 32) j % 3) (tZ (c / 32) j) x3 = x4 at h4 ht kk
  have h5 := tS5_r (tZ (c / 32) j % 3) (tZ (c / 32) j) x4
  have hb4 : 0 ≤ x4.2 ∧ x4.2 ≤ 40 := by
    split at h3 <;> split at h4 <;> omega
  refine acT5 hO hc hj ht (by omega) he he1 (fun N hO e he he1 ht => ?_)
  generalize tS5 (tZ (c / 32) j % 3) (tZ (c / 32) j) x4 = x5 at h5 ht kk
  have h6 := tS6_r (tZ (c / 32) j % 3) x5
  have hb5 : 0 ≤ x5.2 ∧ x5.2 ≤ 41 := by
    split at h5 <;> omega
  refine acT6 hO hc hj ht (by omega) he he1 (fun N hO e he he1 ht => ?_)
  generalize tS6 (tZ (c / 32) j % 3) x5 = x6 at h6 ht kk
  have hb6 : 0 ≤ x6.2 ∧ x6.2 ≤ 42 := by
    split at h6 <;> omega
  exact acT7 hO hc hj ht (by omega) he he1 (fun N hO e he he1 ht => kk N hO e he he1 ht)

theorem acL {G : zG} {b : Int} {A : wAb} {c : Int} (hc : 0 ≤ c ∧ c < 2147483648) (h : 17 ≤ c % 32 ∧ c % 32 < 20) : ∀ (n : Nat) (j e : Int) (x : wTt) (M : zM), zO b M A → wTx M x.1 x.2 → 0 ≤ j → j + n = 1 + c / 32 % 4 → (0 ≤ x.2 ∧ x.2 ≤ 7 * j) → (0 ≤ e ∧ e ≤ 60) → (1 ≤ j → 1 ≤ e) → zfor (tStep (c / 32)) j (1 + c / 32 % 4) x = tText (c / 32) → zW G YL_acts (acQ b A c) 213 [(5, .inl j), (4, .inl e), (2, .inl (c / 32)), (3, .inl (A.1 535)), (1, .inl c), (0, .inr (some 175))] [] M
  | 0, j, e, x, M, hO, ht, hj, hjn, hx, he, he1, hz => by
    rw [zfor_end (by omega)] at hz
    refine z_iload dL_acts_213 rfl ?_
    refine z_iconst dL_acts_215 ?_
    refine z_iload_n dL_acts_216 rfl ?_
    refine z_iconst dL_acts_217 ?_
    refine z_irem dL_acts_218 (by omega) (by decide) ?_
    refine z_iadd dL_acts_219 ?_
    refine z_icmp_ge (tgt := 462) dL_acts_220 (by decide) (by omega) (by omega) (fun q => ?_) (fun q => absurd trivial (by omega))
    refine z_iload dL_acts_462 rfl ?_
    refine z_iconst dL_acts_464 ?_
    refine z_icmp_ge (tgt := 473) dL_acts_465 (by decide) (by omega) (by decide) (fun q => ?_) (fun q => absurd trivial (by omega))
    refine z_aload_n dL_acts_473 rfl ?_
    refine z_callV mX4_perform (a_perform (by omega) ht hO) rfl dL_acts_474 kL_46 (by decide) rfl (by show _ ≤ 8; simp) (by decide) (zsh175) (by decide) rfl (fun v1 M1 q1 => ?_)
    obtain ⟨rfl, hO⟩ := q1
    try simp only [zpush]
    refine z_iret dL_acts_477 rfl ?_
    unfold acQ
    rw [aAct_8 h, ← hz]
    exact ⟨rfl, hO⟩
  | n + 1, j, e, x, M, hO, ht, hj, hjn, hx, he, he1, hz => by
    rw [zfor_step (by omega)] at hz
    have hr := tStep_r (c / 32) j x
    refine z_iload dL_acts_213 rfl ?_
    refine z_iconst dL_acts_215 ?_
    refine z_iload_n dL_acts_216 rfl ?_
    refine z_iconst dL_acts_217 ?_
    refine z_irem dL_acts_218 (by omega) (by decide) ?_
    refine z_iadd dL_acts_219 ?_
    refine z_icmp_ge (tgt := 462) dL_acts_220 (by decide) (by omega) (by omega) (fun q => absurd trivial (by omega)) (fun q => ?_)
    refine acB hO hc (by omega) ht (by omega) he (fun N hO e2 he2 he3 ht => ?_)
    refine z_iinc dL_acts_456 rfl (by decide) ?_
    refine z_goto (tgt := 213) dL_acts_459 (by decide) ?_
    exact zsub' (acL hc h n (j + 1) e2 _ N hO ht (by omega) (by omega) (by omega) he2 (fun _ => he3) hz) ⟨rfl, rfl, rfl, rfl, rfl, rfl, trivial⟩

theorem ac204 {G : zG} {b : Int} {A : wAb} {M : zM} {c : Int} (hO : zO b M A) (hc : 0 ≤ c ∧ c < 2147483648) (h : 17 ≤ c % 32 ∧ c % 32 < 20) : zW G YL_acts (acQ b A c) 204 [(2, .inl (c / 32)), (3, .inl (A.1 535)), (1, .inl c), (0, .inr (some 175))] [] M := by
  refine z_aload_n dL_acts_204 rfl ?_
  refine z_callV mX4_clearText (a_clearText hO) rfl dL_acts_205 kL_39 (by decide) rfl (by show _ ≤ 8; simp) (by decide) (zsh175) (by decide) rfl (fun v205 M205 q205 => ?_)
  obtain ⟨had, hh, rfl, hO, ht⟩ := q205
  try simp only [zpush]
  refine z_istore dL_acts_208 (by decide) ?_
  refine z_iconst dL_acts_210 ?_
  refine z_istore dL_acts_211 (by decide) ?_
  exact zsub' (acL hc h (1 + c / 32 % 4).toNat 0 had (fun _ => 0, 0) _ hO ht (by decide) (by omega) (by decide) (by omega) (fun q => absurd q (by decide)) rfl) ⟨rfl, rfl, rfl, rfl, rfl, rfl, trivial⟩

theorem t_acts {G : zG} {b : Int} {A : wAb} {M : zM} {c : Int} (hc : 0 ≤ c ∧ c < 2147483648) (hO : zO b M A) : zCall G yL_acts YL_acts [.inr (some 175), .inl c] M (acQ b A c) := by
  refine zEnter (by decide +kernel) rfl (Nat.le_of_ble_eq_true rfl) ?_
  refine z_iload_n dL_acts_0 rfl ?_
  refine z_bipush dL_acts_1 (by decide) ?_
  refine z_idiv dL_acts_3 (by omega) (by decide) ?_
  refine z_istore_n dL_acts_4 (by decide) ?_
  refine z_aload_n dL_acts_5 rfl ?_
  refine z_iconst dL_acts_6 ?_
  refine z_callV mX4_count (t_count (w := 1) (by decide) (by decide) hO) rfl dL_acts_7 kL_9 (by decide) rfl (by show _ ≤ 8; simp) (by decide) (zsh175) (by decide) rfl (fun v7 M7 q7 => ?_)
  obtain ⟨rfl, hO⟩ := q7
  try simp only [zpush]
  rw [show sCount A.1 A.2.1.1 0 1 = A.1 535 from rfl]
  refine z_istore_n dL_acts_10 (by decide) ?_
  refine z_iload_n dL_acts_11 rfl ?_
  refine z_bipush dL_acts_12 (by decide) ?_
  refine z_irem dL_acts_14 (by omega) (by decide) ?_
  rcases (show (c % 32) = 0 ∨ (c % 32) = 1 ∨ (c % 32) = 2 ∨ (c % 32) = 3 ∨ (c % 32) = 4 ∨ (c % 32) = 5 ∨ (c % 32) = 6 ∨ (c % 32) = 7 ∨ (c % 32) = 8 ∨ (c % 32) = 9 ∨ (c % 32) = 10 ∨ (c % 32) = 11 ∨ (c % 32) = 12 ∨ (c % 32) = 13 ∨ (c % 32) = 14 ∨ (c % 32) = 15 ∨ (c % 32) = 16 ∨ (c % 32) = 17 ∨ (c % 32) = 18 ∨ (c % 32) = 19 ∨ ((c % 32) < 0 ∨ 19 < (c % 32)) by omega) with h15 | h15 | h15 | h15 | h15 | h15 | h15 | h15 | h15 | h15 | h15 | h15 | h15 | h15 | h15 | h15 | h15 | h15 | h15 | h15 | h15
  · refine z_tabIn (off := 93) (tgt := 108) dL_acts_15 (by omega) (by omega) (by rw [h15]; rfl) (by decide) ?_
    exact zsub' (ac108 hO hc (by omega)) ⟨rfl, rfl, rfl, rfl, trivial⟩
  · refine z_tabIn (off := 93) (tgt := 108) dL_acts_15 (by omega) (by omega) (by rw [h15]; rfl) (by decide) ?_
    exact zsub' (ac108 hO hc (by omega)) ⟨rfl, rfl, rfl, rfl, trivial⟩
  · refine z_tabIn (off := 93) (tgt := 108) dL_acts_15 (by omega) (by omega) (by rw [h15]; rfl) (by decide) ?_
    exact zsub' (ac108 hO hc (by omega)) ⟨rfl, rfl, rfl, rfl, trivial⟩
  · refine z_tabIn (off := 93) (tgt := 108) dL_acts_15 (by omega) (by omega) (by rw [h15]; rfl) (by decide) ?_
    exact zsub' (ac108 hO hc (by omega)) ⟨rfl, rfl, rfl, rfl, trivial⟩
  · refine z_tabIn (off := 93) (tgt := 108) dL_acts_15 (by omega) (by omega) (by rw [h15]; rfl) (by decide) ?_
    exact zsub' (ac108 hO hc (by omega)) ⟨rfl, rfl, rfl, rfl, trivial⟩
  · refine z_tabIn (off := 93) (tgt := 108) dL_acts_15 (by omega) (by omega) (by rw [h15]; rfl) (by decide) ?_
    exact zsub' (ac108 hO hc (by omega)) ⟨rfl, rfl, rfl, rfl, trivial⟩
  · refine z_tabIn (off := 109) (tgt := 124) dL_acts_15 (by omega) (by omega) (by rw [h15]; rfl) (by decide) ?_
    exact zsub' (ac124 hO hc (by omega)) ⟨rfl, rfl, rfl, rfl, trivial⟩
  · refine z_tabIn (off := 134) (tgt := 149) dL_acts_15 (by omega) (by omega) (by rw [h15]; rfl) (by decide) ?_
    exact zsub' (ac149 hO hc (by omega)) ⟨rfl, rfl, rfl, rfl, trivial⟩
  · refine z_tabIn (off := 134) (tgt := 149) dL_acts_15 (by omega) (by omega) (by rw [h15]; rfl) (by decide) ?_
    exact zsub' (ac149 hO hc (by omega)) ⟨rfl, rfl, rfl, rfl, trivial⟩
  · refine z_tabIn (off := 134) (tgt := 149) dL_acts_15 (by omega) (by omega) (by rw [h15]; rfl) (by decide) ?_
    exact zsub' (ac149 hO hc (by omega)) ⟨rfl, rfl, rfl, rfl, trivial⟩
  · refine z_tabIn (off := 134) (tgt := 149) dL_acts_15 (by omega) (by omega) (by rw [h15]; rfl) (by decide) ?_
    exact zsub' (ac149 hO hc (by omega)) ⟨rfl, rfl, rfl, rfl, trivial⟩
  · refine z_tabIn (off := 158) (tgt := 173) dL_acts_15 (by omega) (by omega) (by rw [h15]; rfl) (by decide) ?_
    exact zsub' (ac173 hO hc (by omega)) ⟨rfl, rfl, rfl, rfl, trivial⟩
  · refine z_tabIn (off := 158) (tgt := 173) dL_acts_15 (by omega) (by omega) (by rw [h15]; rfl) (by decide) ?_
    exact zsub' (ac173 hO hc (by omega)) ⟨rfl, rfl, rfl, rfl, trivial⟩
  · refine z_tabIn (off := 174) (tgt := 189) dL_acts_15 (by omega) (by omega) (by rw [h15]; rfl) (by decide) ?_
    exact zsub' (ac189 hO hc (by omega)) ⟨rfl, rfl, rfl, rfl, trivial⟩
  · refine z_tabIn (off := 174) (tgt := 189) dL_acts_15 (by omega) (by omega) (by rw [h15]; rfl) (by decide) ?_
    exact zsub' (ac189 hO hc (by omega)) ⟨rfl, rfl, rfl, rfl, trivial⟩
  · refine z_tabIn (off := 179) (tgt := 194) dL_acts_15 (by omega) (by omega) (by rw [h15]; rfl) (by decide) ?_
    exact zsub' (ac194 hO hc (by omega)) ⟨rfl, rfl, rfl, rfl, trivial⟩
  · refine z_tabIn (off := 184) (tgt := 199) dL_acts_15 (by omega) (by omega) (by rw [h15]; rfl) (by decide) ?_
    exact zsub' (ac199 hO hc (by omega)) ⟨rfl, rfl, rfl, rfl, trivial⟩
  · refine z_tabIn (off := 189) (tgt := 204) dL_acts_15 (by omega) (by omega) (by rw [h15]; rfl) (by decide) ?_
    exact zsub' (ac204 hO hc (by omega)) ⟨rfl, rfl, rfl, rfl, trivial⟩
  · refine z_tabIn (off := 189) (tgt := 204) dL_acts_15 (by omega) (by omega) (by rw [h15]; rfl) (by decide) ?_
    exact zsub' (ac204 hO hc (by omega)) ⟨rfl, rfl, rfl, rfl, trivial⟩
  · refine z_tabIn (off := 189) (tgt := 204) dL_acts_15 (by omega) (by omega) (by rw [h15]; rfl) (by decide) ?_
    exact zsub' (ac204 hO hc (by omega)) ⟨rfl, rfl, rfl, rfl, trivial⟩
  · refine z_tabOut (tgt := 478) dL_acts_15 (by omega) h15 (by decide) ?_
    exact zsub' (ac478 hO hc (by omega)) ⟨rfl, rfl, rfl, rfl, trivial⟩
