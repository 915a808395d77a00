/-! ===== hangs(): its snails ===== -/
def rkB (σ : zS) (k : Int) (R : Nat) : Prop := R < 1024 ∧ ∀ r : Nat, R.testBit r = true ↔ ∃ j : Int, (0 ≤ j ∧ j < k) ∧ 0 < σ (360 + 10 * j + 4) ∧ σ (360 + 10 * j + 4) = (r : Int)
theorem rk_p {x : Int} (h : 0 ≤ x ∧ x ≤ 19) : 2 ^ x.toNat < 1048576 := Nat.lt_of_lt_of_le (Nat.pow_lt_pow_right (by decide) (show x.toNat < 20 by omega)) (by decide)
theorem rkB_0 (σ : zS) : rkB σ 0 0 := ⟨by decide, fun r => ⟨fun h => by simp at h, fun ⟨j, h, _⟩ => by omega⟩⟩
theorem rkB_n {σ : zS} {k : Int} {R : Nat} (h : rkB σ k R) (h0 : σ (360 + 10 * k + 4) = 0) : rkB σ (k + 1) (R ||| 0) := by
  rw [Nat.or_zero]
  refine ⟨h.1, fun r => (h.2 r).trans ⟨fun ⟨j, q1, q2, q3⟩ => ⟨j, by omega, q2, q3⟩, fun ⟨j, q1, q2, q3⟩ => ⟨j, ?_, q2, q3⟩⟩⟩
  have : j ≠ k := fun e => by subst e; omega
  omega
theorem rkB_s {σ : zS} {k : Int} {R : Nat} (h : rkB σ k R) (hk : 0 ≤ k) (h0 : 1 ≤ σ (360 + 10 * k + 4) ∧ σ (360 + 10 * k + 4) ≤ 8) : rkB σ (k + 1) (R ||| 2 ^ (σ (360 + 10 * k + 4)).toNat) := by
  refine ⟨?_, fun r => ?_⟩
  · exact Nat.or_lt_two_pow (n := 10) h.1 (Nat.pow_lt_pow_right (by decide) (by omega))
  · rw [Nat.testBit_or, Bool.or_eq_true, h.2 r, Nat.testBit_two_pow]
    constructor
    · rintro (⟨j, q1, q2, q3⟩ | q)
      · exact ⟨j, by omega, q2, q3⟩
      · have q := of_decide_eq_true q
        exact ⟨k, by omega, by omega, by omega⟩
    · rintro ⟨j, q1, q2, q3⟩
      by_cases e : j = k
      · right
        rw [e] at q3
        exact decide_eq_true (by omega)
      · exact Or.inl ⟨j, by omega, q2, q3⟩
theorem rkB_end {b : Int} {σ : zS} {R : Nat} (h : rkB σ (σ 535) R) (hK : zHK b σ) : ((2 ^ (sIn σ 1 + 1).toNat : Nat) : Int) - 2 = (R : Int) ∧ (0 ≤ sIn σ 1 ∧ sIn σ 1 ≤ 8) := by
  obtain ⟨hB, hX, hH, -⟩ := hK
  have hm := zI_m hB.1.1
  have h8 := hB.2.1
  have e7 := hX.2.2.1
  have hxr := hX.r hm.1
  have hE : (σ 537).toNat ≤ 8 := by omega
  have hR := rank_bits hE (R := R) (fun r => (h.2 r).trans ⟨fun ⟨j, q1, q2, q3⟩ => by
    have := hH.2.2.1.2 j q1.1 q1.2
    omega, fun q => by
    obtain ⟨j, w1, w2⟩ := hH.2.2.1.1 (r : Int) (by omega) (by omega)
    exact ⟨j, w1, by omega, w2⟩⟩)
  have hp : 2 ≤ 2 ^ ((σ 537).toNat + 1) := by
    have : 2 ^ 1 ≤ 2 ^ ((σ 537).toNat + 1) := Nat.pow_le_pow_right (by decide) (by omega)
    omega
  rw [← e7]
  refine ⟨?_, by omega⟩
  rw [show (σ 537 + 1).toNat = (σ 537).toNat + 1 by omega, hR]
  omega
theorem zsum_nextF {f : Int → Int → Int} {i m a t y : Int} (h : i < m) (e : zfor f i m a = t) (hx : f i a = y) : zfor f (i + 1) m y = t := by
  rw [← e, zfor_step h, hx]

theorem hgF {G : zG} {Q : Option zV → zM → Prop} {b : Int} {A : wAb} {M : zM} {k cr en st bo re : Int} {R : Nat} (hO : zO b M A) (hk : 0 ≤ k ∧ k < A.1 535) (k467 : ∀ N : zM, zO b N A → zW G YL_hangs Q 467 [(19, .inl 0), (18, .inl 0), (13, .inl (A.1 (360 + 10 * k + 3))), (14, .inl (cRk A.1 k)), (15, .inl (cLd A.1 k)), (16, .inl (A.1 (360 + 10 * k + 9))), (17, .inl (cDo A.1 k)), (12, .inl k), (6, .inl cr), (7, .inl en), (8, .inl st), (9, .inl bo), (10, .inl re), (11, .inl (R : Int)), (1, .inl (sTrl A.1)), (2, .inl (sFro A.1)), (3, .inl (sIn A.1 0)), (4, .inl 1), (5, .inl (A.1 535)), (0, .inr (some 175))] [] N) : zW G YL_hangs Q 415 [(12, .inl k), (6, .inl cr), (7, .inl en), (8, .inl st), (9, .inl bo), (10, .inl re), (11, .inl (R : Int)), (1, .inl (sTrl A.1)), (2, .inl (sFro A.1)), (3, .inl (sIn A.1 0)), (4, .inl 1), (5, .inl (A.1 535)), (0, .inr (some 175))] [] M := by
  refine z_aload_n dL_hangs_415 rfl ?_
  refine z_iload dL_hangs_416 rfl ?_
  refine z_iconst dL_hangs_418 ?_
  refine z_callV mX4_snail (t_sn (w := 3) hk (by decide) hO) rfl dL_hangs_419 kL_55 (by decide) rfl (by show _ ≤ 8; simp) (by decide) (zsh175) (by decide) rfl (fun v419 M419 q419 => ?_)
  obtain ⟨rfl, hO⟩ := q419
  try simp only [zpush]
  refine z_istore dL_hangs_422 (by decide) ?_
  refine z_aload_n dL_hangs_424 rfl ?_
  refine z_iload dL_hangs_425 rfl ?_
  refine z_iconst dL_hangs_427 ?_
  refine z_callV mX4_snail (t_rk hk hO) rfl dL_hangs_428 kL_55 (by decide) rfl (by show _ ≤ 8; simp) (by decide) (zsh175) (by decide) rfl (fun v428 M428 q428 => ?_)
  obtain ⟨rfl, hO⟩ := q428
  try simp only [zpush]
  refine z_istore dL_hangs_431 (by decide) ?_
  refine z_aload_n dL_hangs_433 rfl ?_
  refine z_iload dL_hangs_434 rfl ?_
  refine z_bipush dL_hangs_436 (by decide) ?_
  refine z_callV mX4_snail (t_ld hk hO) rfl dL_hangs_438 kL_55 (by decide) rfl (by show _ ≤ 8; simp) (by decide) (zsh175) (by decide) rfl (fun v438 M438 q438 => ?_)
  obtain ⟨rfl, hO⟩ := q438
  try simp only [zpush]
  refine z_istore dL_hangs_441 (by decide) ?_
  refine z_aload_n dL_hangs_443 rfl ?_
  refine z_iload dL_hangs_444 rfl ?_
  refine z_bipush dL_hangs_446 (by decide) ?_
  refine z_callV mX4_snail (t_sn (w := 9) hk (by decide) hO) rfl dL_hangs_448 kL_55 (by decide) rfl (by show _ ≤ 8; simp) (by decide) (zsh175) (by decide) rfl (fun v448 M448 q448 => ?_)
  obtain ⟨rfl, hO⟩ := q448
  try simp only [zpush]
  refine z_istore dL_hangs_451 (by decide) ?_
  refine z_aload_n dL_hangs_453 rfl ?_
  refine z_iload dL_hangs_454 rfl ?_
  refine z_callV mX4_does (t_do hk hO) rfl dL_hangs_456 kL_61 (by decide) rfl (by show _ ≤ 8; simp) (by decide) (zsh175) (by decide) rfl (fun v456 M456 q456 => ?_)
  obtain ⟨rfl, hO⟩ := q456
  try simp only [zpush]
  refine z_istore dL_hangs_459 (by decide) ?_
  refine z_iconst dL_hangs_461 ?_
  refine z_istore dL_hangs_462 (by decide) ?_
  refine z_iconst dL_hangs_464 ?_
  refine z_istore dL_hangs_465 (by decide) ?_
  exact zsub' (k467 _ hO) ⟨rfl, rfl, rfl, rfl, rfl, rfl, rfl, rfl, rfl, rfl, rfl, rfl, rfl, rfl, rfl, rfl, rfl, rfl, rfl, rfl, trivial⟩

theorem hgG0 {G : zG} {Q : Option zV → zM → Prop} {b : Int} {A : wAb} {M : zM} {k cr en st bo re : Int} {R : Nat} {sm j : Int} (hO : zO b M A) (hk : 0 ≤ k ∧ k < A.1 535) (hj : 0 ≤ j ∧ j < A.1 535) (h1 : zfor (zsumF (sOwG A.1 k)) j (A.1 535) sm = sOw A.1 k) (k467 : ∀ N : zM, zO b N A → ∀ sm2 : Int, zfor (zsumF (sOwG A.1 k)) (j + 1) (A.1 535) sm2 = sOw A.1 k → zW G YL_hangs Q 467 [(19, .inl (j + 1)), (18, .inl sm2), (13, .inl (A.1 (360 + 10 * k + 3))), (14, .inl (cRk A.1 k)), (15, .inl (cLd A.1 k)), (16, .inl (A.1 (360 + 10 * k + 9))), (17, .inl (cDo A.1 k)), (12, .inl k), (6, .inl cr), (7, .inl en), (8, .inl st), (9, .inl bo), (10, .inl re), (11, .inl (R : Int)), (1, .inl (sTrl A.1)), (2, .inl (sFro A.1)), (3, .inl (sIn A.1 0)), (4, .inl 1), (5, .inl (A.1 535)), (0, .inr (some 175))] [] N) : zW G YL_hangs Q 474 [(19, .inl j), (18, .inl sm), (13, .inl (A.1 (360 + 10 * k + 3))), (14, .inl (cRk A.1 k)), (15, .inl (cLd A.1 k)), (16, .inl (A.1 (360 + 10 * k + 9))), (17, .inl (cDo A.1 k)), (12, .inl k), (6, .inl cr), (7, .inl en), (8, .inl st), (9, .inl bo), (10, .inl re), (11, .inl (R : Int)), (1, .inl (sTrl A.1)), (2, .inl (sFro A.1)), (3, .inl (sIn A.1 0)), (4, .inl 1), (5, .inl (A.1 535)), (0, .inr (some 175))] [] M := by
  have hf := hk_all hO.1.2 hk
  refine z_iload dL_hangs_474 rfl ?_
  refine z_iload dL_hangs_476 rfl ?_
  refine z_iload dL_hangs_478 rfl ?_
  refine z_icmp_ne (tgt := 487) dL_hangs_480 (by decide) (by omega) (by omega) (fun c480 => ?_) (fun c480 => ?_)
  · refine z_aload_n dL_hangs_487 rfl ?_
    refine z_iload dL_hangs_488 rfl ?_
    refine z_iload dL_hangs_490 rfl ?_
    refine z_callV mX4_owes (t_ow hk hj (by omega) hO) rfl dL_hangs_492 kL_64 (by decide) rfl (by show _ ≤ 8; simp) (by decide) (zsh175) (by decide) rfl (fun v492 M492 q492 => ?_)
    obtain ⟨rfl, hO⟩ := q492
    try simp only [zpush]
    refine z_iadd dL_hangs_495 ?_
    refine z_istore dL_hangs_496 (by decide) ?_
    refine z_iinc dL_hangs_498 rfl (by decide) ?_
    refine z_goto (tgt := 467) dL_hangs_501 (by decide) ?_
    exact zsub' (k467 _ hO _ (zsum_next hj.2 h1 (by unfold sOwG; first | exact if_pos (by omega) | exact if_neg (by omega)))) ⟨rfl, rfl, rfl, rfl, rfl, rfl, rfl, rfl, rfl, rfl, rfl, rfl, rfl, rfl, rfl, rfl, rfl, rfl, rfl, rfl, trivial⟩
  · refine z_iconst dL_hangs_483 ?_
    refine z_goto (tgt := 495) dL_hangs_484 (by decide) ?_
    refine z_iadd dL_hangs_495 ?_
    refine z_istore dL_hangs_496 (by decide) ?_
    refine z_iinc dL_hangs_498 rfl (by decide) ?_
    refine z_goto (tgt := 467) dL_hangs_501 (by decide) ?_
    exact zsub' (k467 _ hO _ (zsum_next hj.2 h1 (by unfold sOwG; first | exact if_pos (by omega) | exact if_neg (by omega)))) ⟨rfl, rfl, rfl, rfl, rfl, rfl, rfl, rfl, rfl, rfl, rfl, rfl, rfl, rfl, rfl, rfl, rfl, rfl, rfl, rfl, trivial⟩

theorem hg_sum {G : zG} {Q : Option zV → zM → Prop} {b : Int} {A : wAb} {k cr en st bo re : Int} {R : Nat} (hk : 0 ≤ k ∧ k < A.1 535) (k504 : ∀ (N : zM), zO b N A → zW G YL_hangs Q 504 [(18, .inl (A.1 (360 + 10 * k + 6))), (13, .inl (A.1 (360 + 10 * k + 3))), (14, .inl (cRk A.1 k)), (15, .inl (cLd A.1 k)), (16, .inl (A.1 (360 + 10 * k + 9))), (17, .inl (cDo A.1 k)), (12, .inl k), (6, .inl cr), (7, .inl en), (8, .inl st), (9, .inl bo), (10, .inl re), (11, .inl (R : Int)), (1, .inl (sTrl A.1)), (2, .inl (sFro A.1)), (3, .inl (sIn A.1 0)), (4, .inl 1), (5, .inl (A.1 535)), (0, .inr (some 175))] [] N) : ∀ (n : Nat) (j sm : Int) (M : zM), zO b M A → 0 ≤ j → j + n = A.1 535 → zfor (zsumF (sOwG A.1 k)) j (A.1 535) sm = sOw A.1 k → zW G YL_hangs Q 467 [(19, .inl j), (18, .inl sm), (13, .inl (A.1 (360 + 10 * k + 3))), (14, .inl (cRk A.1 k)), (15, .inl (cLd A.1 k)), (16, .inl (A.1 (360 + 10 * k + 9))), (17, .inl (cDo A.1 k)), (12, .inl k), (6, .inl cr), (7, .inl en), (8, .inl st), (9, .inl bo), (10, .inl re), (11, .inl (R : Int)), (1, .inl (sTrl A.1)), (2, .inl (sFro A.1)), (3, .inl (sIn A.1 0)), (4, .inl 1), (5, .inl (A.1 535)), (0, .inr (some 175))] [] M
  | 0, j, sm, M, hO, hj, hjn, h1 => by
    have hf := hk_all hO.1.2 hk
    rw [zfor_end (by omega), hf.2.2.2.2.2.2.1] at h1
    rw [h1]
    refine z_iload dL_hangs_467 rfl ?_
    refine z_iload dL_hangs_469 rfl ?_
    refine z_icmp_ge (tgt := 504) dL_hangs_471 (by decide) (by omega) (by omega) (fun c => ?_) (fun c => absurd trivial (by omega))
    exact zsub' (k504 _ hO) ⟨rfl, rfl, rfl, rfl, rfl, rfl, rfl, rfl, rfl, rfl, rfl, rfl, rfl, rfl, rfl, rfl, rfl, rfl, rfl, trivial⟩
  | n + 1, j, sm, M, hO, hj, hjn, h1 => by
    have hf := hk_all hO.1.2 hk
    refine z_iload dL_hangs_467 rfl ?_
    refine z_iload dL_hangs_469 rfl ?_
    refine z_icmp_ge (tgt := 504) dL_hangs_471 (by decide) (by omega) (by omega) (fun c => absurd trivial (by omega)) (fun c => ?_)
    refine hgG0 hO hk ⟨hj, c⟩ h1 (fun N1 hO1 sm2 e1 => ?_)
    exact hg_sum hk k504 n (j + 1) sm2 N1 hO1 (by omega) (by omega) e1

theorem hgG {G : zG} {Q : Option zV → zM → Prop} {b : Int} {A : wAb} {M : zM} {k cr en st bo re : Int} {R : Nat} (hO : zO b M A) (hk : 0 ≤ k ∧ k < A.1 535) (k705 : ∀ N : zM, zO b N A → zW G YL_hangs Q 705 [(18, .inl (A.1 (360 + 10 * k + 6))), (13, .inl (A.1 (360 + 10 * k + 3))), (14, .inl (cRk A.1 k)), (15, .inl (cLd A.1 k)), (16, .inl (A.1 (360 + 10 * k + 9))), (17, .inl (cDo A.1 k)), (12, .inl k), (6, .inl cr), (7, .inl en), (8, .inl st), (9, .inl bo), (10, .inl re), (11, .inl (R : Int)), (1, .inl (sTrl A.1)), (2, .inl (sFro A.1)), (3, .inl (sIn A.1 0)), (4, .inl 1), (5, .inl (A.1 535)), (0, .inr (some 175))] [] N) : zW G YL_hangs Q 504 [(18, .inl (A.1 (360 + 10 * k + 6))), (13, .inl (A.1 (360 + 10 * k + 3))), (14, .inl (cRk A.1 k)), (15, .inl (cLd A.1 k)), (16, .inl (A.1 (360 + 10 * k + 9))), (17, .inl (cDo A.1 k)), (12, .inl k), (6, .inl cr), (7, .inl en), (8, .inl st), (9, .inl bo), (10, .inl re), (11, .inl (R : Int)), (1, .inl (sTrl A.1)), (2, .inl (sFro A.1)), (3, .inl (sIn A.1 0)), (4, .inl 1), (5, .inl (A.1 535)), (0, .inr (some 175))] [] M := by
  have hf := hk_all hO.1.2 hk
  rcases (show A.1 (360 + 10 * k + 3) = 0 ∨ A.1 (360 + 10 * k + 3) = 1 ∨ A.1 (360 + 10 * k + 3) = 2 by omega) with hs | hs | hs
  · refine z_iload dL_hangs_504 rfl ?_
    refine z_if_lt (tgt := 853) dL_hangs_506 (by decide) (by omega) (fun c506 => ?_) (fun c506 => ?_)
    · exact absurd trivial (by omega)
    · refine z_iload dL_hangs_509 rfl ?_
      refine z_iconst dL_hangs_511 ?_
      refine z_icmp_ge (tgt := 853) dL_hangs_512 (by decide) (by omega) (by decide) (fun c512 => ?_) (fun c512 => ?_)
      · exact absurd trivial (by omega)
      · refine z_iload dL_hangs_515 rfl ?_
        refine z_iconst dL_hangs_517 ?_
        refine z_icmp_ne (tgt := 525) dL_hangs_518 (by decide) (by omega) (by decide) (fun c518 => ?_) (fun c518 => ?_)
        · refine z_iconst dL_hangs_525 ?_
          refine z_iload dL_hangs_526 rfl ?_
          refine z_if_le (tgt := 535) dL_hangs_528 (by decide) (by omega) (fun c528 => ?_) (fun c528 => ?_)
          · refine z_iconst dL_hangs_535 ?_
            refine z_icmp_ne (tgt := 853) dL_hangs_536 (by decide) (by decide) (by decide) (fun h => absurd h (by decide)) (fun _ => ?_)
            refine z_iload dL_hangs_539 rfl ?_
            refine z_iconst dL_hangs_541 ?_
            refine z_icmp_ne (tgt := 549) dL_hangs_542 (by decide) (by omega) (by decide) (fun c542 => ?_) (fun c542 => ?_)
            · refine z_iconst dL_hangs_549 ?_
              refine z_aload_n dL_hangs_550 rfl ?_
              refine z_iload dL_hangs_551 rfl ?_
              refine z_iconst dL_hangs_553 ?_
              refine z_callV mX4_snail (t_sn (w := 1) hk (by decide) hO) rfl dL_hangs_554 kL_55 (by decide) rfl (by show _ ≤ 8; simp) (by decide) (zsh175) (by decide) rfl (fun v554 M554 q554 => ?_)
              obtain ⟨rfl, hO⟩ := q554
              try simp only [zpush]
              refine z_bipush dL_hangs_557 (by decide) ?_
              refine z_icmp_ne (tgt := 566) dL_hangs_559 (by decide) (by omega) (by decide) (fun c559 => ?_) (fun c559 => ?_)
              · refine z_iconst dL_hangs_566 ?_
                refine z_icmp_ne (tgt := 853) dL_hangs_567 (by decide) (by decide) (by decide) (fun h => absurd h (by decide)) (fun _ => ?_)
                refine z_aload_n dL_hangs_570 rfl ?_
                refine z_iload dL_hangs_571 rfl ?_
                refine z_iconst dL_hangs_573 ?_
                refine z_callV mX4_snail (t_sn (w := 2) hk (by decide) hO) rfl dL_hangs_574 kL_55 (by decide) rfl (by show _ ≤ 8; simp) (by decide) (zsh175) (by decide) rfl (fun v574 M574 q574 => ?_)
                obtain ⟨rfl, hO⟩ := q574
                try simp only [zpush]
                refine z_if_lt (tgt := 853) dL_hangs_577 (by decide) (by omega) (fun c577 => ?_) (fun c577 => ?_)
                · exact absurd trivial (by omega)
                · refine z_aload_n dL_hangs_580 rfl ?_
                  refine z_iload dL_hangs_581 rfl ?_
                  refine z_iconst dL_hangs_583 ?_
                  refine z_callV mX4_snail (t_sn (w := 2) hk (by decide) hO) rfl dL_hangs_584 kL_55 (by decide) rfl (by show _ ≤ 8; simp) (by decide) (zsh175) (by decide) rfl (fun v584 M584 q584 => ?_)
                  obtain ⟨rfl, hO⟩ := q584
                  try simp only [zpush]
                  refine z_bipush dL_hangs_587 (by decide) ?_
                  refine z_icmp_gt (tgt := 853) dL_hangs_589 (by decide) (by omega) (by decide) (fun c589 => ?_) (fun c589 => ?_)
                  · exact absurd trivial (by omega)
                  · refine z_aload_n dL_hangs_592 rfl ?_
                    refine z_iload dL_hangs_593 rfl ?_
                    refine z_iconst dL_hangs_595 ?_
                    refine z_callV mX4_snail (t_sn (w := 5) hk (by decide) hO) rfl dL_hangs_596 kL_55 (by decide) rfl (by show _ ≤ 8; simp) (by decide) (zsh175) (by decide) rfl (fun v596 M596 q596 => ?_)
                    obtain ⟨rfl, hO⟩ := q596
                    try simp only [zpush]
                    refine z_aload_n dL_hangs_599 rfl ?_
                    refine z_iload dL_hangs_600 rfl ?_
                    refine z_iconst dL_hangs_602 ?_
                    refine z_callV mX4_snail (t_sn (w := 1) hk (by decide) hO) rfl dL_hangs_603 kL_55 (by decide) rfl (by show _ ≤ 8; simp) (by decide) (zsh175) (by decide) rfl (fun v603 M603 q603 => ?_)
                    obtain ⟨rfl, hO⟩ := q603
                    try simp only [zpush]
                    refine z_icmp_ne (tgt := 853) dL_hangs_606 (by decide) (by omega) (by omega) (fun c606 => ?_) (fun c606 => ?_)
                    · exact absurd trivial (by omega)
                    · refine z_aload_n dL_hangs_609 rfl ?_
                      refine z_iload dL_hangs_610 rfl ?_
                      refine z_bipush dL_hangs_612 (by decide) ?_
                      refine z_callV mX4_snail (t_sn (w := 6) hk (by decide) hO) rfl dL_hangs_614 kL_55 (by decide) rfl (by show _ ≤ 8; simp) (by decide) (zsh175) (by decide) rfl (fun v614 M614 q614 => ?_)
                      obtain ⟨rfl, hO⟩ := q614
                      try simp only [zpush]
                      refine z_aload_n dL_hangs_617 rfl ?_
                      refine z_iload dL_hangs_618 rfl ?_
                      refine z_iconst dL_hangs_620 ?_
                      refine z_callV mX4_snail (t_sn (w := 5) hk (by decide) hO) rfl dL_hangs_621 kL_55 (by decide) rfl (by show _ ≤ 8; simp) (by decide) (zsh175) (by decide) rfl (fun v621 M621 q621 => ?_)
                      obtain ⟨rfl, hO⟩ := q621
                      try simp only [zpush]
                      refine z_icmp_gt (tgt := 853) dL_hangs_624 (by decide) (by omega) (by omega) (fun c624 => ?_) (fun c624 => ?_)
                      · exact absurd trivial (by omega)
                      · refine z_iload dL_hangs_627 rfl ?_
                        refine z_aload_n dL_hangs_629 rfl ?_
                        refine z_iload dL_hangs_630 rfl ?_
                        refine z_bipush dL_hangs_632 (by decide) ?_
                        refine z_callV mX4_snail (t_sn (w := 6) hk (by decide) hO) rfl dL_hangs_634 kL_55 (by decide) rfl (by show _ ≤ 8; simp) (by decide) (zsh175) (by decide) rfl (fun v634 M634 q634 => ?_)
                        obtain ⟨rfl, hO⟩ := q634
                        try simp only [zpush]
                        refine z_same_ne (tgt := 853) dL_hangs_637 (by decide) ?_
                        refine z_aload_n dL_hangs_640 rfl ?_
                        refine z_iload dL_hangs_641 rfl ?_
                        refine z_iload dL_hangs_643 rfl ?_
                        refine z_callV mX4_owes (t_owk hk hO) rfl dL_hangs_645 kL_64 (by decide) rfl (by show _ ≤ 8; simp) (by decide) (zsh175) (by decide) rfl (fun v645 M645 q645 => ?_)
                        obtain ⟨rfl, hO⟩ := q645
                        try simp only [zpush]
                        refine z_bipush dL_hangs_648 (by decide) ?_
                        refine z_icmp_ne (tgt := 853) dL_hangs_650 (by decide) (by decide) (by decide) (fun c650 => ?_) (fun c650 => ?_)
                        · exact absurd trivial (by omega)
                        · refine z_iload dL_hangs_653 rfl ?_
                          refine z_bipush dL_hangs_655 (by decide) ?_
                          refine z_icmp_ne (tgt := 668) dL_hangs_657 (by decide) (by omega) (by decide) (fun c657 => ?_) (fun c657 => ?_)
                          · refine z_iload dL_hangs_668 rfl ?_
                            refine z_if_lt (tgt := 853) dL_hangs_670 (by decide) (by omega) (fun c670 => ?_) (fun c670 => ?_)
                            · exact absurd trivial (by omega)
                            · refine z_iload dL_hangs_673 rfl ?_
                              refine z_iload dL_hangs_675 rfl ?_
                              refine z_icmp_eq (tgt := 853) dL_hangs_677 (by decide) (by omega) (by omega) (fun c677 => ?_) (fun c677 => ?_)
                              · exact absurd trivial (by omega)
                              · refine z_iload dL_hangs_680 rfl ?_
                                refine z_if_le (tgt := 853) dL_hangs_682 (by decide) (by omega) (fun c682 => ?_) (fun c682 => ?_)
                                · exact absurd trivial (by omega)
                                · refine z_iload dL_hangs_685 rfl ?_
                                  refine z_bipush dL_hangs_687 (by decide) ?_
                                  refine z_icmp_gt (tgt := 853) dL_hangs_689 (by decide) (by omega) (by decide) (fun c689 => ?_) (fun c689 => ?_)
                                  · exact absurd trivial (by omega)
                                  · refine z_aload_n dL_hangs_692 rfl ?_
                                    refine z_iload dL_hangs_693 rfl ?_
                                    refine z_iload dL_hangs_695 rfl ?_
                                    refine z_callV mX4_owes (t_ow hk (by omega) (by omega) hO) rfl dL_hangs_697 kL_64 (by decide) rfl (by show _ ≤ 8; simp) (by decide) (zsh175) (by decide) rfl (fun v697 M697 q697 => ?_)
                                    obtain ⟨rfl, hO⟩ := q697
                                    try simp only [zpush]
                                    refine z_iload dL_hangs_700 rfl ?_
                                    refine z_icmp_lt (tgt := 853) dL_hangs_702 (by decide) (by omega) (by omega) (fun c702 => ?_) (fun c702 => ?_)
                                    · exact absurd trivial (by omega)
                                    · exact zsub' (k705 _ hO) ⟨rfl, rfl, rfl, rfl, rfl, rfl, rfl, rfl, rfl, rfl, rfl, rfl, rfl, rfl, rfl, rfl, rfl, rfl, rfl, trivial⟩
                          · refine z_iload dL_hangs_660 rfl ?_
                            refine z_if_ne (tgt := 853) dL_hangs_662 (by decide) (by omega) (fun c662 => ?_) (fun c662 => ?_)
                            · exact absurd trivial (by omega)
                            · refine z_goto (tgt := 705) dL_hangs_665 (by decide) ?_
                              exact zsub' (k705 _ hO) ⟨rfl, rfl, rfl, rfl, rfl, rfl, rfl, rfl, rfl, rfl, rfl, rfl, rfl, rfl, rfl, rfl, rfl, rfl, rfl, trivial⟩
              · exact absurd trivial (by omega)
            · exact absurd trivial (by omega)
          · exact absurd trivial (by omega)
        · exact absurd trivial (by omega)
  · refine z_iload dL_hangs_504 rfl ?_
    refine z_if_lt (tgt := 853) dL_hangs_506 (by decide) (by omega) (fun c506 => ?_) (fun c506 => ?_)
    · exact absurd trivial (by omega)
    · refine z_iload dL_hangs_509 rfl ?_
      refine z_iconst dL_hangs_511 ?_
      refine z_icmp_ge (tgt := 853) dL_hangs_512 (by decide) (by omega) (by decide) (fun c512 => ?_) (fun c512 => ?_)
      · exact absurd trivial (by omega)
      · refine z_iload dL_hangs_515 rfl ?_
        refine z_iconst dL_hangs_517 ?_
        refine z_icmp_ne (tgt := 525) dL_hangs_518 (by decide) (by omega) (by decide) (fun c518 => ?_) (fun c518 => ?_)
        · exact absurd trivial (by omega)
        · refine z_iconst dL_hangs_521 ?_
          refine z_goto (tgt := 526) dL_hangs_522 (by decide) ?_
          refine z_iload dL_hangs_526 rfl ?_
          refine z_if_le (tgt := 535) dL_hangs_528 (by decide) (by omega) (fun c528 => ?_) (fun c528 => ?_)
          · exact absurd trivial (by omega)
          · refine z_iconst dL_hangs_531 ?_
            refine z_goto (tgt := 536) dL_hangs_532 (by decide) ?_
            refine z_icmp_ne (tgt := 853) dL_hangs_536 (by decide) (by decide) (by decide) (fun h => absurd h (by decide)) (fun _ => ?_)
            refine z_iload dL_hangs_539 rfl ?_
            refine z_iconst dL_hangs_541 ?_
            refine z_icmp_ne (tgt := 549) dL_hangs_542 (by decide) (by omega) (by decide) (fun c542 => ?_) (fun c542 => ?_)
            · exact absurd trivial (by omega)
            · refine z_iconst dL_hangs_545 ?_
              refine z_goto (tgt := 550) dL_hangs_546 (by decide) ?_
              refine z_aload_n dL_hangs_550 rfl ?_
              refine z_iload dL_hangs_551 rfl ?_
              refine z_iconst dL_hangs_553 ?_
              refine z_callV mX4_snail (t_sn (w := 1) hk (by decide) hO) rfl dL_hangs_554 kL_55 (by decide) rfl (by show _ ≤ 8; simp) (by decide) (zsh175) (by decide) rfl (fun v554 M554 q554 => ?_)
              obtain ⟨rfl, hO⟩ := q554
              try simp only [zpush]
              refine z_bipush dL_hangs_557 (by decide) ?_
              refine z_icmp_ne (tgt := 566) dL_hangs_559 (by decide) (by omega) (by decide) (fun c559 => ?_) (fun c559 => ?_)
              · exact absurd trivial (by omega)
              · refine z_iconst dL_hangs_562 ?_
                refine z_goto (tgt := 567) dL_hangs_563 (by decide) ?_
                refine z_icmp_ne (tgt := 853) dL_hangs_567 (by decide) (by decide) (by decide) (fun h => absurd h (by decide)) (fun _ => ?_)
                refine z_aload_n dL_hangs_570 rfl ?_
                refine z_iload dL_hangs_571 rfl ?_
                refine z_iconst dL_hangs_573 ?_
                refine z_callV mX4_snail (t_sn (w := 2) hk (by decide) hO) rfl dL_hangs_574 kL_55 (by decide) rfl (by show _ ≤ 8; simp) (by decide) (zsh175) (by decide) rfl (fun v574 M574 q574 => ?_)
                obtain ⟨rfl, hO⟩ := q574
                try simp only [zpush]
                refine z_if_lt (tgt := 853) dL_hangs_577 (by decide) (by omega) (fun c577 => ?_) (fun c577 => ?_)
                · exact absurd trivial (by omega)
                · refine z_aload_n dL_hangs_580 rfl ?_
                  refine z_iload dL_hangs_581 rfl ?_
                  refine z_iconst dL_hangs_583 ?_
                  refine z_callV mX4_snail (t_sn (w := 2) hk (by decide) hO) rfl dL_hangs_584 kL_55 (by decide) rfl (by show _ ≤ 8; simp) (by decide) (zsh175) (by decide) rfl (fun v584 M584 q584 => ?_)
                  obtain ⟨rfl, hO⟩ := q584
                  try simp only [zpush]
                  refine z_bipush dL_hangs_587 (by decide) ?_
                  refine z_icmp_gt (tgt := 853) dL_hangs_589 (by decide) (by omega) (by decide) (fun c589 => ?_) (fun c589 => ?_)
                  · exact absurd trivial (by omega)
                  · refine z_aload_n dL_hangs_592 rfl ?_
                    refine z_iload dL_hangs_593 rfl ?_
                    refine z_iconst dL_hangs_595 ?_
                    refine z_callV mX4_snail (t_sn (w := 5) hk (by decide) hO) rfl dL_hangs_596 kL_55 (by decide) rfl (by show _ ≤ 8; simp) (by decide) (zsh175) (by decide) rfl (fun v596 M596 q596 => ?_)
                    obtain ⟨rfl, hO⟩ := q596
                    try simp only [zpush]
                    refine z_aload_n dL_hangs_599 rfl ?_
                    refine z_iload dL_hangs_600 rfl ?_
                    refine z_iconst dL_hangs_602 ?_
                    refine z_callV mX4_snail (t_sn (w := 1) hk (by decide) hO) rfl dL_hangs_603 kL_55 (by decide) rfl (by show _ ≤ 8; simp) (by decide) (zsh175) (by decide) rfl (fun v603 M603 q603 => ?_)
                    obtain ⟨rfl, hO⟩ := q603
                    try simp only [zpush]
                    refine z_icmp_ne (tgt := 853) dL_hangs_606 (by decide) (by omega) (by omega) (fun c606 => ?_) (fun c606 => ?_)
                    · exact absurd trivial (by omega)
                    · refine z_aload_n dL_hangs_609 rfl ?_
                      refine z_iload dL_hangs_610 rfl ?_
                      refine z_bipush dL_hangs_612 (by decide) ?_
                      refine z_callV mX4_snail (t_sn (w := 6) hk (by decide) hO) rfl dL_hangs_614 kL_55 (by decide) rfl (by show _ ≤ 8; simp) (by decide) (zsh175) (by decide) rfl (fun v614 M614 q614 => ?_)
                      obtain ⟨rfl, hO⟩ := q614
                      try simp only [zpush]
                      refine z_aload_n dL_hangs_617 rfl ?_
                      refine z_iload dL_hangs_618 rfl ?_
                      refine z_iconst dL_hangs_620 ?_
                      refine z_callV mX4_snail (t_sn (w := 5) hk (by decide) hO) rfl dL_hangs_621 kL_55 (by decide) rfl (by show _ ≤ 8; simp) (by decide) (zsh175) (by decide) rfl (fun v621 M621 q621 => ?_)
                      obtain ⟨rfl, hO⟩ := q621
                      try simp only [zpush]
                      refine z_icmp_gt (tgt := 853) dL_hangs_624 (by decide) (by omega) (by omega) (fun c624 => ?_) (fun c624 => ?_)
                      · exact absurd trivial (by omega)
                      · refine z_iload dL_hangs_627 rfl ?_
                        refine z_aload_n dL_hangs_629 rfl ?_
                        refine z_iload dL_hangs_630 rfl ?_
                        refine z_bipush dL_hangs_632 (by decide) ?_
                        refine z_callV mX4_snail (t_sn (w := 6) hk (by decide) hO) rfl dL_hangs_634 kL_55 (by decide) rfl (by show _ ≤ 8; simp) (by decide) (zsh175) (by decide) rfl (fun v634 M634 q634 => ?_)
                        obtain ⟨rfl, hO⟩ := q634
                        try simp only [zpush]
                        refine z_same_ne (tgt := 853) dL_hangs_637 (by decide) ?_
                        refine z_aload_n dL_hangs_640 rfl ?_
                        refine z_iload dL_hangs_641 rfl ?_
                        refine z_iload dL_hangs_643 rfl ?_
                        refine z_callV mX4_owes (t_owk hk hO) rfl dL_hangs_645 kL_64 (by decide) rfl (by show _ ≤ 8; simp) (by decide) (zsh175) (by decide) rfl (fun v645 M645 q645 => ?_)
                        obtain ⟨rfl, hO⟩ := q645
                        try simp only [zpush]
                        refine z_bipush dL_hangs_648 (by decide) ?_
                        refine z_icmp_ne (tgt := 853) dL_hangs_650 (by decide) (by decide) (by decide) (fun c650 => ?_) (fun c650 => ?_)
                        · exact absurd trivial (by omega)
                        · refine z_iload dL_hangs_653 rfl ?_
                          refine z_bipush dL_hangs_655 (by decide) ?_
                          refine z_icmp_ne (tgt := 668) dL_hangs_657 (by decide) (by omega) (by decide) (fun c657 => ?_) (fun c657 => ?_)
                          · refine z_iload dL_hangs_668 rfl ?_
                            refine z_if_lt (tgt := 853) dL_hangs_670 (by decide) (by omega) (fun c670 => ?_) (fun c670 => ?_)
                            · exact absurd trivial (by omega)
                            · refine z_iload dL_hangs_673 rfl ?_
                              refine z_iload dL_hangs_675 rfl ?_
                              refine z_icmp_eq (tgt := 853) dL_hangs_677 (by decide) (by omega) (by omega) (fun c677 => ?_) (fun c677 => ?_)
                              · exact absurd trivial (by omega)
                              · refine z_iload dL_hangs_680 rfl ?_
                                refine z_if_le (tgt := 853) dL_hangs_682 (by decide) (by omega) (fun c682 => ?_) (fun c682 => ?_)
                                · exact absurd trivial (by omega)
                                · refine z_iload dL_hangs_685 rfl ?_
                                  refine z_bipush dL_hangs_687 (by decide) ?_
                                  refine z_icmp_gt (tgt := 853) dL_hangs_689 (by decide) (by omega) (by decide) (fun c689 => ?_) (fun c689 => ?_)
                                  · exact absurd trivial (by omega)
                                  · refine z_aload_n dL_hangs_692 rfl ?_
                                    refine z_iload dL_hangs_693 rfl ?_
                                    refine z_iload dL_hangs_695 rfl ?_
                                    refine z_callV mX4_owes (t_ow hk (by omega) (by omega) hO) rfl dL_hangs_697 kL_64 (by decide) rfl (by show _ ≤ 8; simp) (by decide) (zsh175) (by decide) rfl (fun v697 M697 q697 => ?_)
                                    obtain ⟨rfl, hO⟩ := q697
                                    try simp only [zpush]
                                    refine z_iload dL_hangs_700 rfl ?_
                                    refine z_icmp_lt (tgt := 853) dL_hangs_702 (by decide) (by omega) (by omega) (fun c702 => ?_) (fun c702 => ?_)
                                    · exact absurd trivial (by omega)
                                    · exact zsub' (k705 _ hO) ⟨rfl, rfl, rfl, rfl, rfl, rfl, rfl, rfl, rfl, rfl, rfl, rfl, rfl, rfl, rfl, rfl, rfl, rfl, rfl, trivial⟩
                          · refine z_iload dL_hangs_660 rfl ?_
                            refine z_if_ne (tgt := 853) dL_hangs_662 (by decide) (by omega) (fun c662 => ?_) (fun c662 => ?_)
                            · exact absurd trivial (by omega)
                            · refine z_goto (tgt := 705) dL_hangs_665 (by decide) ?_
                              exact zsub' (k705 _ hO) ⟨rfl, rfl, rfl, rfl, rfl, rfl, rfl, rfl, rfl, rfl, rfl, rfl, rfl, rfl, rfl, rfl, rfl, rfl, rfl, trivial⟩
  · refine z_iload dL_hangs_504 rfl ?_
    refine z_if_lt (tgt := 853) dL_hangs_506 (by decide) (by omega) (fun c506 => ?_) (fun c506 => ?_)
    · exact absurd trivial (by omega)
    · refine z_iload dL_hangs_509 rfl ?_
      refine z_iconst dL_hangs_511 ?_
      refine z_icmp_ge (tgt := 853) dL_hangs_512 (by decide) (by omega) (by decide) (fun c512 => ?_) (fun c512 => ?_)
      · exact absurd trivial (by omega)
      · refine z_iload dL_hangs_515 rfl ?_
        refine z_iconst dL_hangs_517 ?_
        refine z_icmp_ne (tgt := 525) dL_hangs_518 (by decide) (by omega) (by decide) (fun c518 => ?_) (fun c518 => ?_)
        · refine z_iconst dL_hangs_525 ?_
          refine z_iload dL_hangs_526 rfl ?_
          refine z_if_le (tgt := 535) dL_hangs_528 (by decide) (by omega) (fun c528 => ?_) (fun c528 => ?_)
          · refine z_iconst dL_hangs_535 ?_
            refine z_icmp_ne (tgt := 853) dL_hangs_536 (by decide) (by decide) (by decide) (fun h => absurd h (by decide)) (fun _ => ?_)
            refine z_iload dL_hangs_539 rfl ?_
            refine z_iconst dL_hangs_541 ?_
            refine z_icmp_ne (tgt := 549) dL_hangs_542 (by decide) (by omega) (by decide) (fun c542 => ?_) (fun c542 => ?_)
            · refine z_iconst dL_hangs_549 ?_
              refine z_aload_n dL_hangs_550 rfl ?_
              refine z_iload dL_hangs_551 rfl ?_
              refine z_iconst dL_hangs_553 ?_
              refine z_callV mX4_snail (t_sn (w := 1) hk (by decide) hO) rfl dL_hangs_554 kL_55 (by decide) rfl (by show _ ≤ 8; simp) (by decide) (zsh175) (by decide) rfl (fun v554 M554 q554 => ?_)
              obtain ⟨rfl, hO⟩ := q554
              try simp only [zpush]
              refine z_bipush dL_hangs_557 (by decide) ?_
              refine z_icmp_ne (tgt := 566) dL_hangs_559 (by decide) (by omega) (by decide) (fun c559 => ?_) (fun c559 => ?_)
              · refine z_iconst dL_hangs_566 ?_
                refine z_icmp_ne (tgt := 853) dL_hangs_567 (by decide) (by decide) (by decide) (fun h => absurd h (by decide)) (fun _ => ?_)
                refine z_aload_n dL_hangs_570 rfl ?_
                refine z_iload dL_hangs_571 rfl ?_
                refine z_iconst dL_hangs_573 ?_
                refine z_callV mX4_snail (t_sn (w := 2) hk (by decide) hO) rfl dL_hangs_574 kL_55 (by decide) rfl (by show _ ≤ 8; simp) (by decide) (zsh175) (by decide) rfl (fun v574 M574 q574 => ?_)
                obtain ⟨rfl, hO⟩ := q574
                try simp only [zpush]
                refine z_if_lt (tgt := 853) dL_hangs_577 (by decide) (by omega) (fun c577 => ?_) (fun c577 => ?_)
                · exact absurd trivial (by omega)
                · refine z_aload_n dL_hangs_580 rfl ?_
                  refine z_iload dL_hangs_581 rfl ?_
                  refine z_iconst dL_hangs_583 ?_
                  refine z_callV mX4_snail (t_sn (w := 2) hk (by decide) hO) rfl dL_hangs_584 kL_55 (by decide) rfl (by show _ ≤ 8; simp) (by decide) (zsh175) (by decide) rfl (fun v584 M584 q584 => ?_)
                  obtain ⟨rfl, hO⟩ := q584
                  try simp only [zpush]
                  refine z_bipush dL_hangs_587 (by decide) ?_
                  refine z_icmp_gt (tgt := 853) dL_hangs_589 (by decide) (by omega) (by decide) (fun c589 => ?_) (fun c589 => ?_)
                  · exact absurd trivial (by omega)
                  · refine z_aload_n dL_hangs_592 rfl ?_
                    refine z_iload dL_hangs_593 rfl ?_
                    refine z_iconst dL_hangs_595 ?_
                    refine z_callV mX4_snail (t_sn (w := 5) hk (by decide) hO) rfl dL_hangs_596 kL_55 (by decide) rfl (by show _ ≤ 8; simp) (by decide) (zsh175) (by decide) rfl (fun v596 M596 q596 => ?_)
                    obtain ⟨rfl, hO⟩ := q596
                    try simp only [zpush]
                    refine z_aload_n dL_hangs_599 rfl ?_
                    refine z_iload dL_hangs_600 rfl ?_
                    refine z_iconst dL_hangs_602 ?_
                    refine z_callV mX4_snail (t_sn (w := 1) hk (by decide) hO) rfl dL_hangs_603 kL_55 (by decide) rfl (by show _ ≤ 8; simp) (by decide) (zsh175) (by decide) rfl (fun v603 M603 q603 => ?_)
                    obtain ⟨rfl, hO⟩ := q603
                    try simp only [zpush]
                    refine z_icmp_ne (tgt := 853) dL_hangs_606 (by decide) (by omega) (by omega) (fun c606 => ?_) (fun c606 => ?_)
                    · exact absurd trivial (by omega)
                    · refine z_aload_n dL_hangs_609 rfl ?_
                      refine z_iload dL_hangs_610 rfl ?_
                      refine z_bipush dL_hangs_612 (by decide) ?_
                      refine z_callV mX4_snail (t_sn (w := 6) hk (by decide) hO) rfl dL_hangs_614 kL_55 (by decide) rfl (by show _ ≤ 8; simp) (by decide) (zsh175) (by decide) rfl (fun v614 M614 q614 => ?_)
                      obtain ⟨rfl, hO⟩ := q614
                      try simp only [zpush]
                      refine z_aload_n dL_hangs_617 rfl ?_
                      refine z_iload dL_hangs_618 rfl ?_
                      refine z_iconst dL_hangs_620 ?_
                      refine z_callV mX4_snail (t_sn (w := 5) hk (by decide) hO) rfl dL_hangs_621 kL_55 (by decide) rfl (by show _ ≤ 8; simp) (by decide) (zsh175) (by decide) rfl (fun v621 M621 q621 => ?_)
                      obtain ⟨rfl, hO⟩ := q621
                      try simp only [zpush]
                      refine z_icmp_gt (tgt := 853) dL_hangs_624 (by decide) (by omega) (by omega) (fun c624 => ?_) (fun c624 => ?_)
                      · exact absurd trivial (by omega)
                      · refine z_iload dL_hangs_627 rfl ?_
                        refine z_aload_n dL_hangs_629 rfl ?_
                        refine z_iload dL_hangs_630 rfl ?_
                        refine z_bipush dL_hangs_632 (by decide) ?_
                        refine z_callV mX4_snail (t_sn (w := 6) hk (by decide) hO) rfl dL_hangs_634 kL_55 (by decide) rfl (by show _ ≤ 8; simp) (by decide) (zsh175) (by decide) rfl (fun v634 M634 q634 => ?_)
                        obtain ⟨rfl, hO⟩ := q634
                        try simp only [zpush]
                        refine z_same_ne (tgt := 853) dL_hangs_637 (by decide) ?_
                        refine z_aload_n dL_hangs_640 rfl ?_
                        refine z_iload dL_hangs_641 rfl ?_
                        refine z_iload dL_hangs_643 rfl ?_
                        refine z_callV mX4_owes (t_owk hk hO) rfl dL_hangs_645 kL_64 (by decide) rfl (by show _ ≤ 8; simp) (by decide) (zsh175) (by decide) rfl (fun v645 M645 q645 => ?_)
                        obtain ⟨rfl, hO⟩ := q645
                        try simp only [zpush]
                        refine z_bipush dL_hangs_648 (by decide) ?_
                        refine z_icmp_ne (tgt := 853) dL_hangs_650 (by decide) (by decide) (by decide) (fun c650 => ?_) (fun c650 => ?_)
                        · exact absurd trivial (by omega)
                        · refine z_iload dL_hangs_653 rfl ?_
                          refine z_bipush dL_hangs_655 (by decide) ?_
                          refine z_icmp_ne (tgt := 668) dL_hangs_657 (by decide) (by omega) (by decide) (fun c657 => ?_) (fun c657 => ?_)
                          · refine z_iload dL_hangs_668 rfl ?_
                            refine z_if_lt (tgt := 853) dL_hangs_670 (by decide) (by omega) (fun c670 => ?_) (fun c670 => ?_)
                            · exact absurd trivial (by omega)
                            · refine z_iload dL_hangs_673 rfl ?_
                              refine z_iload dL_hangs_675 rfl ?_
                              refine z_icmp_eq (tgt := 853) dL_hangs_677 (by decide) (by omega) (by omega) (fun c677 => ?_) (fun c677 => ?_)
                              · exact absurd trivial (by omega)
                              · refine z_iload dL_hangs_680 rfl ?_
                                refine z_if_le (tgt := 853) dL_hangs_682 (by decide) (by omega) (fun c682 => ?_) (fun c682 => ?_)
                                · exact absurd trivial (by omega)
                                · refine z_iload dL_hangs_685 rfl ?_
                                  refine z_bipush dL_hangs_687 (by decide) ?_
                                  refine z_icmp_gt (tgt := 853) dL_hangs_689 (by decide) (by omega) (by decide) (fun c689 => ?_) (fun c689 => ?_)
                                  · exact absurd trivial (by omega)
                                  · refine z_aload_n dL_hangs_692 rfl ?_
                                    refine z_iload dL_hangs_693 rfl ?_
                                    refine z_iload dL_hangs_695 rfl ?_
                                    refine z_callV mX4_owes (t_ow hk (by omega) (by omega) hO) rfl dL_hangs_697 kL_64 (by decide) rfl (by show _ ≤ 8; simp) (by decide) (zsh175) (by decide) rfl (fun v697 M697 q697 => ?_)
                                    obtain ⟨rfl, hO⟩ := q697
                                    try simp only [zpush]
                                    refine z_iload dL_hangs_700 rfl ?_
                                    refine z_icmp_lt (tgt := 853) dL_hangs_702 (by decide) (by omega) (by omega) (fun c702 => ?_) (fun c702 => ?_)
                                    · exact absurd trivial (by omega)
                                    · exact zsub' (k705 _ hO) ⟨rfl, rfl, rfl, rfl, rfl, rfl, rfl, rfl, rfl, rfl, rfl, rfl, rfl, rfl, rfl, rfl, rfl, rfl, rfl, trivial⟩
                          · refine z_iload dL_hangs_660 rfl ?_
                            refine z_if_ne (tgt := 853) dL_hangs_662 (by decide) (by omega) (fun c662 => ?_) (fun c662 => ?_)
                            · exact absurd trivial (by omega)
                            · refine z_goto (tgt := 705) dL_hangs_665 (by decide) ?_
                              exact zsub' (k705 _ hO) ⟨rfl, rfl, rfl, rfl, rfl, rfl, rfl, rfl, rfl, rfl, rfl, rfl, rfl, rfl, rfl, rfl, rfl, rfl, rfl, trivial⟩
              · exact absurd trivial (by omega)
            · exact absurd trivial (by omega)
          · exact absurd trivial (by omega)
        · exact absurd trivial (by omega)

theorem hgH {G : zG} {Q : Option zV → zM → Prop} {b : Int} {A : wAb} {M : zM} {k cr en st bo re : Int} {R : Nat} (hO : zO b M A) (hk : 0 ≤ k ∧ k < A.1 535) (k766 : ∀ N : zM, zO b N A → zW G YL_hangs Q 766 [(18, .inl (A.1 (360 + 10 * k + 6))), (13, .inl (A.1 (360 + 10 * k + 3))), (14, .inl (cRk A.1 k)), (15, .inl (cLd A.1 k)), (16, .inl (A.1 (360 + 10 * k + 9))), (17, .inl (cDo A.1 k)), (12, .inl k), (6, .inl cr), (7, .inl en), (8, .inl st), (9, .inl bo), (10, .inl re), (11, .inl (R : Int)), (1, .inl (sTrl A.1)), (2, .inl (sFro A.1)), (3, .inl (sIn A.1 0)), (4, .inl 1), (5, .inl (A.1 535)), (0, .inr (some 175))] [] N) : zW G YL_hangs Q 705 [(18, .inl (A.1 (360 + 10 * k + 6))), (13, .inl (A.1 (360 + 10 * k + 3))), (14, .inl (cRk A.1 k)), (15, .inl (cLd A.1 k)), (16, .inl (A.1 (360 + 10 * k + 9))), (17, .inl (cDo A.1 k)), (12, .inl k), (6, .inl cr), (7, .inl en), (8, .inl st), (9, .inl bo), (10, .inl re), (11, .inl (R : Int)), (1, .inl (sTrl A.1)), (2, .inl (sFro A.1)), (3, .inl (sIn A.1 0)), (4, .inl 1), (5, .inl (A.1 535)), (0, .inr (some 175))] [] M := by
  have hf := hk_all hO.1.2 hk
  have hc := sCh_all A.1 k
  have hp := fun t => sPr_r hO.1.2.1.1.1 (k := k) (by omega) t
  have hd : (A.1 (360 + 10 * k + 3) = 0 ∧ cDo A.1 k = sCh A.1 k) ∨ (A.1 (360 + 10 * k + 3) ≠ 0 ∧ cDo A.1 k = -4) := by
    unfold cDo
    by_cases e : A.1 (360 + 10 * k + 3) = 0
    · rw [if_pos e]; exact Or.inl ⟨e, rfl⟩
    · rw [if_neg e]; exact Or.inr ⟨e, rfl⟩
  rcases (show A.1 (360 + 10 * k + 3) = 0 ∨ A.1 (360 + 10 * k + 3) = 1 ∨ A.1 (360 + 10 * k + 3) = 2 by omega) with hs | hs | hs
  · refine z_iload dL_hangs_705 rfl ?_
    refine z_if_ne (tgt := 759) dL_hangs_707 (by decide) (by omega) (fun c707 => ?_) (fun c707 => ?_)
    · exact absurd trivial (by omega)
    · refine z_iload dL_hangs_710 rfl ?_
      refine z_if_lt (tgt := 853) dL_hangs_712 (by decide) (by omega) (fun c712 => ?_) (fun c712 => ?_)
      · exact absurd trivial (by omega)
      · refine z_iload dL_hangs_715 rfl ?_
        refine z_iconst dL_hangs_717 ?_
        refine z_icmp_ge (tgt := 853) dL_hangs_718 (by decide) (by omega) (by decide) (fun c718 => ?_) (fun c718 => ?_)
        · exact absurd trivial (by omega)
        · refine z_iload dL_hangs_721 rfl ?_
          refine z_iconst dL_hangs_723 ?_
          refine z_icmp_gt (tgt := 766) dL_hangs_724 (by decide) (by omega) (by decide) (fun c724 => ?_) (fun c724 => ?_)
          · exact zsub' (k766 _ hO) ⟨rfl, rfl, rfl, rfl, rfl, rfl, rfl, rfl, rfl, rfl, rfl, rfl, rfl, rfl, rfl, rfl, rfl, rfl, rfl, trivial⟩
          · refine z_aload_n dL_hangs_727 rfl ?_
            refine z_iload dL_hangs_728 rfl ?_
            refine z_iload dL_hangs_730 rfl ?_
            have hlt := sCh_lt (σ := A.1) (k := k) (by omega)
            have e17 : cDo A.1 k = sCh A.1 k := by omega
            have hpp := hp (cDo A.1 k)
            rw [← e17] at hlt
            refine z_callV mX4_cost (t_co hk (by omega) hs hO) rfl dL_hangs_732 kL_67 (by decide) rfl (by show _ ≤ 8; simp) (by decide) (zsh175) (by decide) rfl (fun v732 M732 q732 => ?_)
            obtain ⟨rfl, hO⟩ := q732
            try simp only [zpush]
            refine z_if_le (tgt := 853) dL_hangs_735 (by decide) (by omega) (fun c735 => ?_) (fun c735 => ?_)
            · exact absurd trivial (by omega)
            · refine z_aload_n dL_hangs_738 rfl ?_
              refine z_iload dL_hangs_739 rfl ?_
              refine z_iload dL_hangs_741 rfl ?_
              refine z_callV mX4_cost (t_co hk (by omega) hs hO) rfl dL_hangs_743 kL_67 (by decide) rfl (by show _ ≤ 8; simp) (by decide) (zsh175) (by decide) rfl (fun v743 M743 q743 => ?_)
              obtain ⟨rfl, hO⟩ := q743
              try simp only [zpush]
              refine z_aload_n dL_hangs_746 rfl ?_
              refine z_iload dL_hangs_747 rfl ?_
              refine z_iconst dL_hangs_749 ?_
              refine z_callV mX4_snail (t_sn (w := 2) hk (by decide) hO) rfl dL_hangs_750 kL_55 (by decide) rfl (by show _ ≤ 8; simp) (by decide) (zsh175) (by decide) rfl (fun v750 M750 q750 => ?_)
              obtain ⟨rfl, hO⟩ := q750
              try simp only [zpush]
              refine z_icmp_gt (tgt := 853) dL_hangs_753 (by decide) (by omega) (by omega) (fun c753 => ?_) (fun c753 => ?_)
              · exact absurd trivial (by omega)
              · refine z_goto (tgt := 766) dL_hangs_756 (by decide) ?_
                exact zsub' (k766 _ hO) ⟨rfl, rfl, rfl, rfl, rfl, rfl, rfl, rfl, rfl, rfl, rfl, rfl, rfl, rfl, rfl, rfl, rfl, rfl, rfl, trivial⟩
  · refine z_iload dL_hangs_705 rfl ?_
    refine z_if_ne (tgt := 759) dL_hangs_707 (by decide) (by omega) (fun c707 => ?_) (fun c707 => ?_)
    · refine z_iload dL_hangs_759 rfl ?_
      refine z_bipush dL_hangs_761 (by decide) ?_
      refine z_icmp_ne (tgt := 853) dL_hangs_763 (by decide) (by omega) (by decide) (fun c763 => ?_) (fun c763 => ?_)
      · exact absurd trivial (by omega)
      · exact zsub' (k766 _ hO) ⟨rfl, rfl, rfl, rfl, rfl, rfl, rfl, rfl, rfl, rfl, rfl, rfl, rfl, rfl, rfl, rfl, rfl, rfl, rfl, trivial⟩
    · exact absurd trivial (by omega)
  · refine z_iload dL_hangs_705 rfl ?_
    refine z_if_ne (tgt := 759) dL_hangs_707 (by decide) (by omega) (fun c707 => ?_) (fun c707 => ?_)
    · refine z_iload dL_hangs_759 rfl ?_
      refine z_bipush dL_hangs_761 (by decide) ?_
      refine z_icmp_ne (tgt := 853) dL_hangs_763 (by decide) (by omega) (by decide) (fun c763 => ?_) (fun c763 => ?_)
      · exact absurd trivial (by omega)
      · exact zsub' (k766 _ hO) ⟨rfl, rfl, rfl, rfl, rfl, rfl, rfl, rfl, rfl, rfl, rfl, rfl, rfl, rfl, rfl, rfl, rfl, rfl, rfl, trivial⟩
    · exact absurd trivial (by omega)

theorem hgI {G : zG} {Q : Option zV → zM → Prop} {b : Int} {A : wAb} {M : zM} {k cr en st bo re : Int} {R : Nat} (hO : zO b M A) (hk : 0 ≤ k ∧ k < A.1 535) (k814 : ∀ N : zM, zO b N A → zW G YL_hangs Q 814 [(18, .inl (A.1 (360 + 10 * k + 6))), (13, .inl (A.1 (360 + 10 * k + 3))), (14, .inl (cRk A.1 k)), (15, .inl (cLd A.1 k)), (16, .inl (A.1 (360 + 10 * k + 9))), (17, .inl (cDo A.1 k)), (12, .inl k), (6, .inl cr), (7, .inl en), (8, .inl st), (9, .inl bo), (10, .inl re), (11, .inl (R : Int)), (1, .inl (sTrl A.1)), (2, .inl (sFro A.1)), (3, .inl (sIn A.1 0)), (4, .inl 1), (5, .inl (A.1 535)), (0, .inr (some 175))] [] N) : zW G YL_hangs Q 766 [(18, .inl (A.1 (360 + 10 * k + 6))), (13, .inl (A.1 (360 + 10 * k + 3))), (14, .inl (cRk A.1 k)), (15, .inl (cLd A.1 k)), (16, .inl (A.1 (360 + 10 * k + 9))), (17, .inl (cDo A.1 k)), (12, .inl k), (6, .inl cr), (7, .inl en), (8, .inl st), (9, .inl bo), (10, .inl re), (11, .inl (R : Int)), (1, .inl (sTrl A.1)), (2, .inl (sFro A.1)), (3, .inl (sIn A.1 0)), (4, .inl 1), (5, .inl (A.1 535)), (0, .inr (some 175))] [] M := by
  have hf := hk_all hO.1.2 hk
  have he := sEndsIn_all hO.1.2.1.1 hO.1.2.2.2.1 hk
  rcases (show A.1 (360 + 10 * k + 3) = 0 ∨ A.1 (360 + 10 * k + 3) = 1 ∨ A.1 (360 + 10 * k + 3) = 2 by omega) with hs | hs | hs
  · refine z_iload dL_hangs_766 rfl ?_
    refine z_iconst dL_hangs_768 ?_
    refine z_icmp_ne (tgt := 786) dL_hangs_769 (by decide) (by omega) (by decide) (fun c769 => ?_) (fun c769 => ?_)
    · refine z_aload_n dL_hangs_786 rfl ?_
      refine z_iload dL_hangs_787 rfl ?_
      refine z_callV mX4_endsIn (t_endsIn (by omega) hO) rfl dL_hangs_789 kL_70 (by decide) rfl (by show _ ≤ 8; simp) (by decide) (zsh175) (by decide) rfl (fun v789 M789 q789 => ?_)
      obtain ⟨rfl, hO⟩ := q789
      try simp only [zpush]
      refine z_if_ne (tgt := 799) dL_hangs_792 (by decide) (by omega) (fun c792 => ?_) (fun c792 => ?_)
      · refine z_iconst dL_hangs_799 ?_
        refine z_iload dL_hangs_800 rfl ?_
        refine z_iconst dL_hangs_802 ?_
        refine z_icmp_ne (tgt := 810) dL_hangs_803 (by decide) (by omega) (by decide) (fun c803 => ?_) (fun c803 => ?_)
        · refine z_iconst dL_hangs_810 ?_
          refine z_icmp_ne (tgt := 853) dL_hangs_811 (by decide) (by decide) (by decide) (fun h => absurd h (by decide)) (fun _ => ?_)
          exact zsub' (k814 _ hO) ⟨rfl, rfl, rfl, rfl, rfl, rfl, rfl, rfl, rfl, rfl, rfl, rfl, rfl, rfl, rfl, rfl, rfl, rfl, rfl, trivial⟩
        · exact absurd trivial (by omega)
      · exact absurd trivial (by omega)
    · exact absurd trivial (by omega)
  · refine z_iload dL_hangs_766 rfl ?_
    refine z_iconst dL_hangs_768 ?_
    refine z_icmp_ne (tgt := 786) dL_hangs_769 (by decide) (by omega) (by decide) (fun c769 => ?_) (fun c769 => ?_)
    · refine z_aload_n dL_hangs_786 rfl ?_
      refine z_iload dL_hangs_787 rfl ?_
      refine z_callV mX4_endsIn (t_endsIn (by omega) hO) rfl dL_hangs_789 kL_70 (by decide) rfl (by show _ ≤ 8; simp) (by decide) (zsh175) (by decide) rfl (fun v789 M789 q789 => ?_)
      obtain ⟨rfl, hO⟩ := q789
      try simp only [zpush]
      refine z_if_ne (tgt := 799) dL_hangs_792 (by decide) (by omega) (fun c792 => ?_) (fun c792 => ?_)
      · exact absurd trivial (by omega)
      · refine z_iconst dL_hangs_795 ?_
        refine z_goto (tgt := 800) dL_hangs_796 (by decide) ?_
        refine z_iload dL_hangs_800 rfl ?_
        refine z_iconst dL_hangs_802 ?_
        refine z_icmp_ne (tgt := 810) dL_hangs_803 (by decide) (by omega) (by decide) (fun c803 => ?_) (fun c803 => ?_)
        · exact absurd trivial (by omega)
        · refine z_iconst dL_hangs_806 ?_
          refine z_goto (tgt := 811) dL_hangs_807 (by decide) ?_
          refine z_icmp_ne (tgt := 853) dL_hangs_811 (by decide) (by decide) (by decide) (fun h => absurd h (by decide)) (fun _ => ?_)
          exact zsub' (k814 _ hO) ⟨rfl, rfl, rfl, rfl, rfl, rfl, rfl, rfl, rfl, rfl, rfl, rfl, rfl, rfl, rfl, rfl, rfl, rfl, rfl, trivial⟩
    · exact absurd trivial (by omega)
  · refine z_iload dL_hangs_766 rfl ?_
    refine z_iconst dL_hangs_768 ?_
    refine z_icmp_ne (tgt := 786) dL_hangs_769 (by decide) (by omega) (by decide) (fun c769 => ?_) (fun c769 => ?_)
    · exact absurd trivial (by omega)
    · refine z_aload_n dL_hangs_772 rfl ?_
      refine z_iload dL_hangs_773 rfl ?_
      refine z_callV mX4_endsIn (t_endsIn (by omega) hO) rfl dL_hangs_775 kL_70 (by decide) rfl (by show _ ≤ 8; simp) (by decide) (zsh175) (by decide) rfl (fun v775 M775 q775 => ?_)
      obtain ⟨rfl, hO⟩ := q775
      try simp only [zpush]
      refine z_bipush dL_hangs_778 (by decide) ?_
      refine z_icmp_ne (tgt := 853) dL_hangs_780 (by decide) (by omega) (by decide) (fun c780 => ?_) (fun c780 => ?_)
      · exact absurd trivial (by omega)
      · refine z_goto (tgt := 814) dL_hangs_783 (by decide) ?_
        exact zsub' (k814 _ hO) ⟨rfl, rfl, rfl, rfl, rfl, rfl, rfl, rfl, rfl, rfl, rfl, rfl, rfl, rfl, rfl, rfl, rfl, rfl, rfl, trivial⟩

theorem hgJ {G : zG} {Q : Option zV → zM → Prop} {b : Int} {A : wAb} {M : zM} {k cr en st bo re : Int} {R : Nat} (hO : zO b M A) (hk : 0 ≤ k ∧ k < A.1 535) (k859 : ∀ N : zM, zO b N A → zW G YL_hangs Q 859 [(19, .inl 0), (18, .inl (A.1 (360 + 10 * k + 6))), (13, .inl (A.1 (360 + 10 * k + 3))), (14, .inl (cRk A.1 k)), (15, .inl (cLd A.1 k)), (16, .inl (A.1 (360 + 10 * k + 9))), (17, .inl (cDo A.1 k)), (12, .inl k), (6, .inl cr), (7, .inl en), (8, .inl st), (9, .inl bo), (10, .inl re), (11, .inl (R : Int)), (1, .inl (sTrl A.1)), (2, .inl (sFro A.1)), (3, .inl (sIn A.1 0)), (4, .inl 1), (5, .inl (A.1 535)), (0, .inr (some 175))] [] N) : zW G YL_hangs Q 814 [(18, .inl (A.1 (360 + 10 * k + 6))), (13, .inl (A.1 (360 + 10 * k + 3))), (14, .inl (cRk A.1 k)), (15, .inl (cLd A.1 k)), (16, .inl (A.1 (360 + 10 * k + 9))), (17, .inl (cDo A.1 k)), (12, .inl k), (6, .inl cr), (7, .inl en), (8, .inl st), (9, .inl bo), (10, .inl re), (11, .inl (R : Int)), (1, .inl (sTrl A.1)), (2, .inl (sFro A.1)), (3, .inl (sIn A.1 0)), (4, .inl 1), (5, .inl (A.1 535)), (0, .inr (some 175))] [] M := by
  have hf := hk_all hO.1.2 hk
  have he := sEndsIn_all hO.1.2.1.1 hO.1.2.2.2.1 hk
  rcases (show A.1 (360 + 10 * k + 3) = 0 ∨ A.1 (360 + 10 * k + 3) = 1 ∨ A.1 (360 + 10 * k + 3) = 2 by omega) with hs | hs | hs
  · refine z_iload dL_hangs_814 rfl ?_
    refine z_if_ne (tgt := 849) dL_hangs_816 (by decide) (by omega) (fun c816 => ?_) (fun c816 => ?_)
    · exact absurd trivial (by omega)
    · refine z_aload_n dL_hangs_819 rfl ?_
      refine z_iload dL_hangs_820 rfl ?_
      refine z_callV mX4_endsIn (t_endsIn (by omega) hO) rfl dL_hangs_822 kL_70 (by decide) rfl (by show _ ≤ 8; simp) (by decide) (zsh175) (by decide) rfl (fun v822 M822 q822 => ?_)
      obtain ⟨rfl, hO⟩ := q822
      try simp only [zpush]
      refine z_bipush dL_hangs_825 (by decide) ?_
      refine z_icmp_eq (tgt := 849) dL_hangs_827 (by decide) (by omega) (by decide) (fun c827 => ?_) (fun c827 => ?_)
      · refine z_iconst dL_hangs_849 ?_
        refine z_goto (tgt := 854) dL_hangs_850 (by decide) ?_
        refine z_istore dL_hangs_854 (by decide) ?_
        refine z_iconst dL_hangs_856 ?_
        refine z_istore dL_hangs_857 (by decide) ?_
        exact zsub' (k859 _ hO) ⟨rfl, rfl, rfl, rfl, rfl, rfl, rfl, rfl, rfl, rfl, rfl, rfl, rfl, rfl, rfl, rfl, rfl, rfl, rfl, rfl, trivial⟩
      · refine z_aload_n dL_hangs_830 rfl ?_
        refine z_iload dL_hangs_831 rfl ?_
        refine z_callV mX4_endsIn (t_endsIn (by omega) hO) rfl dL_hangs_833 kL_70 (by decide) rfl (by show _ ≤ 8; simp) (by decide) (zsh175) (by decide) rfl (fun v833 M833 q833 => ?_)
        obtain ⟨rfl, hO⟩ := q833
        try simp only [zpush]
        refine z_bipush dL_hangs_836 (by decide) ?_
        refine z_aload_n dL_hangs_838 rfl ?_
        refine z_iload dL_hangs_839 rfl ?_
        refine z_iconst dL_hangs_841 ?_
        refine z_callV mX4_snail (t_sn (w := 1) hk (by decide) hO) rfl dL_hangs_842 kL_55 (by decide) rfl (by show _ ≤ 8; simp) (by decide) (zsh175) (by decide) rfl (fun v842 M842 q842 => ?_)
        obtain ⟨rfl, hO⟩ := q842
        try simp only [zpush]
        refine z_isub dL_hangs_845 ?_
        refine z_icmp_lt (tgt := 853) dL_hangs_846 (by decide) (by omega) (by omega) (fun c846 => ?_) (fun c846 => ?_)
        · exact absurd trivial (by omega)
        · refine z_iconst dL_hangs_849 ?_
          refine z_goto (tgt := 854) dL_hangs_850 (by decide) ?_
          refine z_istore dL_hangs_854 (by decide) ?_
          refine z_iconst dL_hangs_856 ?_
          refine z_istore dL_hangs_857 (by decide) ?_
          exact zsub' (k859 _ hO) ⟨rfl, rfl, rfl, rfl, rfl, rfl, rfl, rfl, rfl, rfl, rfl, rfl, rfl, rfl, rfl, rfl, rfl, rfl, rfl, rfl, trivial⟩
  · refine z_iload dL_hangs_814 rfl ?_
    refine z_if_ne (tgt := 849) dL_hangs_816 (by decide) (by omega) (fun c816 => ?_) (fun c816 => ?_)
    · refine z_iconst dL_hangs_849 ?_
      refine z_goto (tgt := 854) dL_hangs_850 (by decide) ?_
      refine z_istore dL_hangs_854 (by decide) ?_
      refine z_iconst dL_hangs_856 ?_
      refine z_istore dL_hangs_857 (by decide) ?_
      exact zsub' (k859 _ hO) ⟨rfl, rfl, rfl, rfl, rfl, rfl, rfl, rfl, rfl, rfl, rfl, rfl, rfl, rfl, rfl, rfl, rfl, rfl, rfl, rfl, trivial⟩
    · exact absurd trivial (by omega)
  · refine z_iload dL_hangs_814 rfl ?_
    refine z_if_ne (tgt := 849) dL_hangs_816 (by decide) (by omega) (fun c816 => ?_) (fun c816 => ?_)
    · refine z_iconst dL_hangs_849 ?_
      refine z_goto (tgt := 854) dL_hangs_850 (by decide) ?_
      refine z_istore dL_hangs_854 (by decide) ?_
      refine z_iconst dL_hangs_856 ?_
      refine z_istore dL_hangs_857 (by decide) ?_
      exact zsub' (k859 _ hO) ⟨rfl, rfl, rfl, rfl, rfl, rfl, rfl, rfl, rfl, rfl, rfl, rfl, rfl, rfl, rfl, rfl, rfl, rfl, rfl, rfl, trivial⟩
    · exact absurd trivial (by omega)

theorem hgK {G : zG} {Q : Option zV → zM → Prop} {b : Int} {A : wAb} {M : zM} {k cr en st bo re : Int} {R : Nat} {t : Int} (hO : zO b M A) (hk : 0 ≤ k ∧ k < A.1 535) (hs : A.1 (360 + 10 * k + 3) = 0) (ht : 0 ≤ t ∧ t < 3) (k904 : ∀ N : zM, zO b N A → zW G YL_hangs Q 904 [(20, .inl (sPr A.1 k t)), (19, .inl t), (18, .inl (A.1 (360 + 10 * k + 6))), (13, .inl (A.1 (360 + 10 * k + 3))), (14, .inl (cRk A.1 k)), (15, .inl (cLd A.1 k)), (16, .inl (A.1 (360 + 10 * k + 9))), (17, .inl (cDo A.1 k)), (12, .inl k), (6, .inl cr), (7, .inl en), (8, .inl st), (9, .inl bo), (10, .inl re), (11, .inl (R : Int)), (1, .inl (sTrl A.1)), (2, .inl (sFro A.1)), (3, .inl (sIn A.1 0)), (4, .inl 1), (5, .inl (A.1 535)), (0, .inr (some 175))] [] N) : zW G YL_hangs Q 875 [(19, .inl t), (18, .inl (A.1 (360 + 10 * k + 6))), (13, .inl (A.1 (360 + 10 * k + 3))), (14, .inl (cRk A.1 k)), (15, .inl (cLd A.1 k)), (16, .inl (A.1 (360 + 10 * k + 9))), (17, .inl (cDo A.1 k)), (12, .inl k), (6, .inl cr), (7, .inl en), (8, .inl st), (9, .inl bo), (10, .inl re), (11, .inl (R : Int)), (1, .inl (sTrl A.1)), (2, .inl (sFro A.1)), (3, .inl (sIn A.1 0)), (4, .inl 1), (5, .inl (A.1 535)), (0, .inr (some 175))] [] M := by
  have hf := hk_all hO.1.2 hk
  have hc := sCh_all A.1 k
  have hct := hc.2 t ht.1 ht.2
  have hp := sPr_r hO.1.2.1.1.1 (k := k) (by omega) t
  have e17 : cDo A.1 k = sCh A.1 k := if_pos hs
  refine z_aload_n dL_hangs_875 rfl ?_
  refine z_iload dL_hangs_876 rfl ?_
  refine z_iload dL_hangs_878 rfl ?_
  refine z_callV mX4_cost (t_co hk (by omega) hs hO) rfl dL_hangs_880 kL_67 (by decide) rfl (by show _ ≤ 8; simp) (by decide) (zsh175) (by decide) rfl (fun v880 M880 q880 => ?_)
  obtain ⟨rfl, hO⟩ := q880
  try simp only [zpush]
  refine z_istore dL_hangs_883 (by decide) ?_
  refine z_iload dL_hangs_885 rfl ?_
  refine z_bipush dL_hangs_887 (by decide) ?_
  refine z_icmp_eq (tgt := 904) dL_hangs_889 (by decide) (by omega) (by decide) (fun c889 => ?_) (fun c889 => ?_)
  · exact zsub' (k904 _ hO) ⟨rfl, rfl, rfl, rfl, rfl, rfl, rfl, rfl, rfl, rfl, rfl, rfl, rfl, rfl, rfl, rfl, rfl, rfl, rfl, rfl, rfl, trivial⟩
  · refine z_iload dL_hangs_892 rfl ?_
    refine z_if_le (tgt := 992) dL_hangs_894 (by decide) (by omega) (fun c894 => ?_) (fun c894 => ?_)
    · exact absurd trivial (by omega)
    · refine z_iload dL_hangs_897 rfl ?_
      refine z_bipush dL_hangs_899 (by decide) ?_
      refine z_icmp_ge (tgt := 992) dL_hangs_901 (by decide) (by omega) (by decide) (fun c901 => ?_) (fun c901 => ?_)
      · exact absurd trivial (by omega)
      · exact zsub' (k904 _ hO) ⟨rfl, rfl, rfl, rfl, rfl, rfl, rfl, rfl, rfl, rfl, rfl, rfl, rfl, rfl, rfl, rfl, rfl, rfl, rfl, rfl, rfl, trivial⟩

theorem hgL {G : zG} {Q : Option zV → zM → Prop} {b : Int} {A : wAb} {M : zM} {k cr en st bo re : Int} {R : Nat} {t : Int} (hO : zO b M A) (hk : 0 ≤ k ∧ k < A.1 535) (hs : A.1 (360 + 10 * k + 3) = 0) (ht : 0 ≤ t ∧ t < 3) (k950 : ∀ N : zM, zO b N A → zW G YL_hangs Q 950 [(20, .inl (sPr A.1 k t)), (19, .inl t), (18, .inl (A.1 (360 + 10 * k + 6))), (13, .inl (A.1 (360 + 10 * k + 3))), (14, .inl (cRk A.1 k)), (15, .inl (cLd A.1 k)), (16, .inl (A.1 (360 + 10 * k + 9))), (17, .inl (cDo A.1 k)), (12, .inl k), (6, .inl cr), (7, .inl en), (8, .inl st), (9, .inl bo), (10, .inl re), (11, .inl (R : Int)), (1, .inl (sTrl A.1)), (2, .inl (sFro A.1)), (3, .inl (sIn A.1 0)), (4, .inl 1), (5, .inl (A.1 535)), (0, .inr (some 175))] [] N) : zW G YL_hangs Q 904 [(20, .inl (sPr A.1 k t)), (19, .inl t), (18, .inl (A.1 (360 + 10 * k + 6))), (13, .inl (A.1 (360 + 10 * k + 3))), (14, .inl (cRk A.1 k)), (15, .inl (cLd A.1 k)), (16, .inl (A.1 (360 + 10 * k + 9))), (17, .inl (cDo A.1 k)), (12, .inl k), (6, .inl cr), (7, .inl en), (8, .inl st), (9, .inl bo), (10, .inl re), (11, .inl (R : Int)), (1, .inl (sTrl A.1)), (2, .inl (sFro A.1)), (3, .inl (sIn A.1 0)), (4, .inl 1), (5, .inl (A.1 535)), (0, .inr (some 175))] [] M := by
  have hf := hk_all hO.1.2 hk
  have hc := sCh_all A.1 k
  have hct := hc.2 t ht.1 ht.2
  have hp := sPr_r hO.1.2.1.1.1 (k := k) (by omega) t
  have e17 : cDo A.1 k = sCh A.1 k := if_pos hs
  refine z_iload dL_hangs_904 rfl ?_
  refine z_iconst dL_hangs_906 ?_
  refine z_icmp_gt (tgt := 950) dL_hangs_907 (by decide) (by omega) (by decide) (fun c907 => ?_) (fun c907 => ?_)
  · exact zsub' (k950 _ hO) ⟨rfl, rfl, rfl, rfl, rfl, rfl, rfl, rfl, rfl, rfl, rfl, rfl, rfl, rfl, rfl, rfl, rfl, rfl, rfl, rfl, rfl, trivial⟩
  · refine z_iload dL_hangs_910 rfl ?_
    refine z_bipush dL_hangs_912 (by decide) ?_
    refine z_icmp_eq (tgt := 950) dL_hangs_914 (by decide) (by omega) (by decide) (fun c914 => ?_) (fun c914 => ?_)
    · exact zsub' (k950 _ hO) ⟨rfl, rfl, rfl, rfl, rfl, rfl, rfl, rfl, rfl, rfl, rfl, rfl, rfl, rfl, rfl, rfl, rfl, rfl, rfl, rfl, rfl, trivial⟩
    · refine z_iload dL_hangs_917 rfl ?_
      refine z_aload_n dL_hangs_919 rfl ?_
      refine z_iload dL_hangs_920 rfl ?_
      refine z_iload dL_hangs_922 rfl ?_
      have hlt := sCh_lt (σ := A.1) (k := k) (by omega)
      have hpp := sPr_r hO.1.2.1.1.1 (k := k) (by omega) (cDo A.1 k)
      rw [← e17] at hlt hct
      refine z_callV mX4_cost (t_co hk (by omega) hs hO) rfl dL_hangs_924 kL_67 (by decide) rfl (by show _ ≤ 8; simp) (by decide) (zsh175) (by decide) rfl (fun v924 M924 q924 => ?_)
      obtain ⟨rfl, hO⟩ := q924
      try simp only [zpush]
      refine z_icmp_gt (tgt := 950) dL_hangs_927 (by decide) (by omega) (by omega) (fun c927 => ?_) (fun c927 => ?_)
      · exact zsub' (k950 _ hO) ⟨rfl, rfl, rfl, rfl, rfl, rfl, rfl, rfl, rfl, rfl, rfl, rfl, rfl, rfl, rfl, rfl, rfl, rfl, rfl, rfl, rfl, trivial⟩
      · refine z_iload dL_hangs_930 rfl ?_
        refine z_aload_n dL_hangs_932 rfl ?_
        refine z_iload dL_hangs_933 rfl ?_
        refine z_iload dL_hangs_935 rfl ?_
        refine z_callV mX4_cost (t_co hk (by omega) hs hO) rfl dL_hangs_937 kL_67 (by decide) rfl (by show _ ≤ 8; simp) (by decide) (zsh175) (by decide) rfl (fun v937 M937 q937 => ?_)
        obtain ⟨rfl, hO⟩ := q937
        try simp only [zpush]
        refine z_icmp_ne (tgt := 992) dL_hangs_940 (by decide) (by omega) (by omega) (fun c940 => ?_) (fun c940 => ?_)
        · exact absurd trivial (by omega)
        · refine z_iload dL_hangs_943 rfl ?_
          refine z_iload dL_hangs_945 rfl ?_
          refine z_icmp_lt (tgt := 992) dL_hangs_947 (by decide) (by omega) (by omega) (fun c947 => ?_) (fun c947 => ?_)
          · exact absurd trivial (by omega)
          · exact zsub' (k950 _ hO) ⟨rfl, rfl, rfl, rfl, rfl, rfl, rfl, rfl, rfl, rfl, rfl, rfl, rfl, rfl, rfl, rfl, rfl, rfl, rfl, rfl, rfl, trivial⟩

theorem hgM {G : zG} {Q : Option zV → zM → Prop} {b : Int} {A : wAb} {M : zM} {k cr en st bo re : Int} {R : Nat} {t : Int} (hO : zO b M A) (hk : 0 ≤ k ∧ k < A.1 535) (hs : A.1 (360 + 10 * k + 3) = 0) (ht : 0 ≤ t ∧ t < 3) (k859 : ∀ N : zM, zO b N A → zW G YL_hangs Q 859 [(19, .inl (t + 1)), (18, .inl (A.1 (360 + 10 * k + 6))), (13, .inl (A.1 (360 + 10 * k + 3))), (14, .inl (cRk A.1 k)), (15, .inl (cLd A.1 k)), (16, .inl (A.1 (360 + 10 * k + 9))), (17, .inl (cDo A.1 k)), (12, .inl k), (6, .inl cr), (7, .inl en), (8, .inl st), (9, .inl bo), (10, .inl re), (11, .inl (R : Int)), (1, .inl (sTrl A.1)), (2, .inl (sFro A.1)), (3, .inl (sIn A.1 0)), (4, .inl 1), (5, .inl (A.1 535)), (0, .inr (some 175))] [] N) : zW G YL_hangs Q 950 [(20, .inl (sPr A.1 k t)), (19, .inl t), (18, .inl (A.1 (360 + 10 * k + 6))), (13, .inl (A.1 (360 + 10 * k + 3))), (14, .inl (cRk A.1 k)), (15, .inl (cLd A.1 k)), (16, .inl (A.1 (360 + 10 * k + 9))), (17, .inl (cDo A.1 k)), (12, .inl k), (6, .inl cr), (7, .inl en), (8, .inl st), (9, .inl bo), (10, .inl re), (11, .inl (R : Int)), (1, .inl (sTrl A.1)), (2, .inl (sFro A.1)), (3, .inl (sIn A.1 0)), (4, .inl 1), (5, .inl (A.1 535)), (0, .inr (some 175))] [] M := by
  have hf := hk_all hO.1.2 hk
  have hc := sCh_all A.1 k
  have hct := hc.2 t ht.1 ht.2
  have hp := sPr_r hO.1.2.1.1.1 (k := k) (by omega) t
  have e17 : cDo A.1 k = sCh A.1 k := if_pos hs
  refine z_iload dL_hangs_950 rfl ?_
  refine z_iconst dL_hangs_952 ?_
  refine z_icmp_ne (tgt := 963) dL_hangs_953 (by decide) (by omega) (by decide) (fun c953 => ?_) (fun c953 => ?_)
  · refine z_iload dL_hangs_963 rfl ?_
    refine z_iconst dL_hangs_965 ?_
    refine z_icmp_ne (tgt := 988) dL_hangs_966 (by decide) (by omega) (by decide) (fun c966 => ?_) (fun c966 => ?_)
    · refine z_iconst dL_hangs_988 ?_
      refine z_goto (tgt := 993) dL_hangs_989 (by decide) ?_
      refine z_istore dL_hangs_993 (by decide) ?_
      refine z_iinc dL_hangs_995 rfl (by decide) ?_
      refine z_goto (tgt := 859) dL_hangs_998 (by decide) ?_
      exact zsub' (k859 _ hO) ⟨rfl, rfl, rfl, rfl, rfl, rfl, rfl, rfl, rfl, rfl, rfl, rfl, rfl, rfl, rfl, rfl, rfl, rfl, rfl, rfl, trivial⟩
    · refine z_iload dL_hangs_969 rfl ?_
      refine z_bipush dL_hangs_971 (by decide) ?_
      refine z_icmp_eq (tgt := 988) dL_hangs_973 (by decide) (by omega) (by decide) (fun c973 => ?_) (fun c973 => ?_)
      · refine z_iconst dL_hangs_988 ?_
        refine z_goto (tgt := 993) dL_hangs_989 (by decide) ?_
        refine z_istore dL_hangs_993 (by decide) ?_
        refine z_iinc dL_hangs_995 rfl (by decide) ?_
        refine z_goto (tgt := 859) dL_hangs_998 (by decide) ?_
        exact zsub' (k859 _ hO) ⟨rfl, rfl, rfl, rfl, rfl, rfl, rfl, rfl, rfl, rfl, rfl, rfl, rfl, rfl, rfl, rfl, rfl, rfl, rfl, rfl, trivial⟩
      · refine z_iload dL_hangs_976 rfl ?_
        refine z_aload_n dL_hangs_978 rfl ?_
        refine z_iload dL_hangs_979 rfl ?_
        refine z_iconst dL_hangs_981 ?_
        refine z_callV mX4_snail (t_sn (w := 2) hk (by decide) hO) rfl dL_hangs_982 kL_55 (by decide) rfl (by show _ ≤ 8; simp) (by decide) (zsh175) (by decide) rfl (fun v982 M982 q982 => ?_)
        obtain ⟨rfl, hO⟩ := q982
        try simp only [zpush]
        refine z_icmp_le (tgt := 992) dL_hangs_985 (by decide) (by omega) (by omega) (fun c985 => ?_) (fun c985 => ?_)
        · exact absurd trivial (by omega)
        · refine z_iconst dL_hangs_988 ?_
          refine z_goto (tgt := 993) dL_hangs_989 (by decide) ?_
          refine z_istore dL_hangs_993 (by decide) ?_
          refine z_iinc dL_hangs_995 rfl (by decide) ?_
          refine z_goto (tgt := 859) dL_hangs_998 (by decide) ?_
          exact zsub' (k859 _ hO) ⟨rfl, rfl, rfl, rfl, rfl, rfl, rfl, rfl, rfl, rfl, rfl, rfl, rfl, rfl, rfl, rfl, rfl, rfl, rfl, rfl, trivial⟩
  · refine z_iload dL_hangs_956 rfl ?_
    refine z_bipush dL_hangs_958 (by decide) ?_
    refine z_icmp_ne (tgt := 992) dL_hangs_960 (by decide) (by omega) (by decide) (fun c960 => ?_) (fun c960 => ?_)
    · exact absurd trivial (by omega)
    · refine z_iload dL_hangs_963 rfl ?_
      refine z_iconst dL_hangs_965 ?_
      refine z_icmp_ne (tgt := 988) dL_hangs_966 (by decide) (by omega) (by decide) (fun c966 => ?_) (fun c966 => ?_)
      · refine z_iconst dL_hangs_988 ?_
        refine z_goto (tgt := 993) dL_hangs_989 (by decide) ?_
        refine z_istore dL_hangs_993 (by decide) ?_
        refine z_iinc dL_hangs_995 rfl (by decide) ?_
        refine z_goto (tgt := 859) dL_hangs_998 (by decide) ?_
        exact zsub' (k859 _ hO) ⟨rfl, rfl, rfl, rfl, rfl, rfl, rfl, rfl, rfl, rfl, rfl, rfl, rfl, rfl, rfl, rfl, rfl, rfl, rfl, rfl, trivial⟩
      · refine z_iload dL_hangs_969 rfl ?_
        refine z_bipush dL_hangs_971 (by decide) ?_
        refine z_icmp_eq (tgt := 988) dL_hangs_973 (by decide) (by omega) (by decide) (fun c973 => ?_) (fun c973 => ?_)
        · refine z_iconst dL_hangs_988 ?_
          refine z_goto (tgt := 993) dL_hangs_989 (by decide) ?_
          refine z_istore dL_hangs_993 (by decide) ?_
          refine z_iinc dL_hangs_995 rfl (by decide) ?_
          refine z_goto (tgt := 859) dL_hangs_998 (by decide) ?_
          exact zsub' (k859 _ hO) ⟨rfl, rfl, rfl, rfl, rfl, rfl, rfl, rfl, rfl, rfl, rfl, rfl, rfl, rfl, rfl, rfl, rfl, rfl, rfl, rfl, trivial⟩
        · refine z_iload dL_hangs_976 rfl ?_
          refine z_aload_n dL_hangs_978 rfl ?_
          refine z_iload dL_hangs_979 rfl ?_
          refine z_iconst dL_hangs_981 ?_
          refine z_callV mX4_snail (t_sn (w := 2) hk (by decide) hO) rfl dL_hangs_982 kL_55 (by decide) rfl (by show _ ≤ 8; simp) (by decide) (zsh175) (by decide) rfl (fun v982 M982 q982 => ?_)
          obtain ⟨rfl, hO⟩ := q982
          try simp only [zpush]
          refine z_icmp_le (tgt := 992) dL_hangs_985 (by decide) (by omega) (by omega) (fun c985 => ?_) (fun c985 => ?_)
          · exact absurd trivial (by omega)
          · refine z_iconst dL_hangs_988 ?_
            refine z_goto (tgt := 993) dL_hangs_989 (by decide) ?_
            refine z_istore dL_hangs_993 (by decide) ?_
            refine z_iinc dL_hangs_995 rfl (by decide) ?_
            refine z_goto (tgt := 859) dL_hangs_998 (by decide) ?_
            exact zsub' (k859 _ hO) ⟨rfl, rfl, rfl, rfl, rfl, rfl, rfl, rfl, rfl, rfl, rfl, rfl, rfl, rfl, rfl, rfl, rfl, rfl, rfl, rfl, trivial⟩

theorem hg_steps {G : zG} {Q : Option zV → zM → Prop} {b : Int} {A : wAb} {k cr en st bo re : Int} {R : Nat} (hk : 0 ≤ k ∧ k < A.1 535) (k1001 : ∀ (N : zM), zO b N A → zW G YL_hangs Q 1001 [(18, .inl (A.1 (360 + 10 * k + 6))), (13, .inl (A.1 (360 + 10 * k + 3))), (14, .inl (cRk A.1 k)), (15, .inl (cLd A.1 k)), (16, .inl (A.1 (360 + 10 * k + 9))), (17, .inl (cDo A.1 k)), (12, .inl k), (6, .inl cr), (7, .inl en), (8, .inl st), (9, .inl bo), (10, .inl re), (11, .inl (R : Int)), (1, .inl (sTrl A.1)), (2, .inl (sFro A.1)), (3, .inl (sIn A.1 0)), (4, .inl 1), (5, .inl (A.1 535)), (0, .inr (some 175))] [] N) : ∀ (n : Nat) (t : Int) (M : zM), zO b M A → 0 ≤ t → t + n = 3 → zW G YL_hangs Q 859 [(19, .inl t), (18, .inl (A.1 (360 + 10 * k + 6))), (13, .inl (A.1 (360 + 10 * k + 3))), (14, .inl (cRk A.1 k)), (15, .inl (cLd A.1 k)), (16, .inl (A.1 (360 + 10 * k + 9))), (17, .inl (cDo A.1 k)), (12, .inl k), (6, .inl cr), (7, .inl en), (8, .inl st), (9, .inl bo), (10, .inl re), (11, .inl (R : Int)), (1, .inl (sTrl A.1)), (2, .inl (sFro A.1)), (3, .inl (sIn A.1 0)), (4, .inl 1), (5, .inl (A.1 535)), (0, .inr (some 175))] [] M
  | 0, t, M, hO, ht, htn => by
    refine z_iload dL_hangs_859 rfl ?_
    refine z_iconst dL_hangs_861 ?_
    refine z_icmp_ge (tgt := 1001) dL_hangs_862 (by decide) (by omega) (by decide) (fun c => ?_) (fun c => absurd trivial (by omega))
    exact zsub' (k1001 _ hO) ⟨rfl, rfl, rfl, rfl, rfl, rfl, rfl, rfl, rfl, rfl, rfl, rfl, rfl, rfl, rfl, rfl, rfl, rfl, rfl, trivial⟩
  | n + 1, t, M, hO, ht, htn => by
    have hf := hk_all hO.1.2 hk
    refine z_iload dL_hangs_859 rfl ?_
    refine z_iconst dL_hangs_861 ?_
    refine z_icmp_ge (tgt := 1001) dL_hangs_862 (by decide) (by omega) (by decide) (fun c => absurd trivial (by omega)) (fun c => ?_)
    refine z_iload dL_hangs_865 rfl ?_
    refine z_if_eq (tgt := 1001) dL_hangs_867 (by decide) (by decide) (fun h => absurd h (by decide)) (fun _ => ?_)
    refine z_iload dL_hangs_870 rfl ?_
    refine z_if_ne (tgt := 1001) dL_hangs_872 (by decide) (by omega) (fun c2 => ?_) (fun c2 => ?_)
    · exact zsub' (k1001 _ hO) ⟨rfl, rfl, rfl, rfl, rfl, rfl, rfl, rfl, rfl, rfl, rfl, rfl, rfl, rfl, rfl, rfl, rfl, rfl, rfl, trivial⟩
    · have hs : A.1 (360 + 10 * k + 3) = 0 := by omega
      refine hgK hO hk hs ⟨ht, c⟩ (fun N1 hO1 => ?_)
      refine hgL hO1 hk hs ⟨ht, c⟩ (fun N2 hO2 => ?_)
      refine hgM hO2 hk hs ⟨ht, c⟩ (fun N3 hO3 => ?_)
      exact hg_steps hk k1001 n (t + 1) N3 hO3 (by omega) (by omega)

theorem hgN {G : zG} {Q : Option zV → zM → Prop} {b : Int} {A : wAb} {M : zM} {k cr en st bo re : Int} {R : Nat} (hO : zO b M A) (hk : 0 ≤ k ∧ k < A.1 535) (h1 : zfor (sInF A.1 0) k (A.1 535) cr = sIn A.1 0) (h2 : zfor (sInF A.1 1) k (A.1 535) en = sIn A.1 1) (h3 : zfor (fun k n => n + A.1 (360 + 10 * k + 5)) k (A.1 535) st = sOf A.1 5) (h4 : zfor (fun k n => n + A.1 (360 + 10 * k + 6)) k (A.1 535) bo = sOf A.1 6) (h5 : zfor (fun k n => n + A.1 (360 + 10 * k + 7)) k (A.1 535) re = sOf A.1 7) (h6 : rkB A.1 k R) (k396 : ∀ N : zM, zO b N A → ∀ (cr2 en2 st2 bo2 re2 : Int) (R2 : Nat), zfor (sInF A.1 0) (k + 1) (A.1 535) cr2 = sIn A.1 0 → zfor (sInF A.1 1) (k + 1) (A.1 535) en2 = sIn A.1 1 → zfor (fun k n => n + A.1 (360 + 10 * k + 5)) (k + 1) (A.1 535) st2 = sOf A.1 5 → zfor (fun k n => n + A.1 (360 + 10 * k + 6)) (k + 1) (A.1 535) bo2 = sOf A.1 6 → zfor (fun k n => n + A.1 (360 + 10 * k + 7)) (k + 1) (A.1 535) re2 = sOf A.1 7 → rkB A.1 (k + 1) R2 → zW G YL_hangs Q 396 [(12, .inl (k + 1)), (6, .inl cr2), (7, .inl en2), (8, .inl st2), (9, .inl bo2), (10, .inl re2), (11, .inl (R2 : Int)), (1, .inl (sTrl A.1)), (2, .inl (sFro A.1)), (3, .inl (sIn A.1 0)), (4, .inl 1), (5, .inl (A.1 535)), (0, .inr (some 175))] [] N) : zW G YL_hangs Q 1001 [(18, .inl (A.1 (360 + 10 * k + 6))), (13, .inl (A.1 (360 + 10 * k + 3))), (14, .inl (cRk A.1 k)), (15, .inl (cLd A.1 k)), (16, .inl (A.1 (360 + 10 * k + 9))), (17, .inl (cDo A.1 k)), (12, .inl k), (6, .inl cr), (7, .inl en), (8, .inl st), (9, .inl bo), (10, .inl re), (11, .inl (R : Int)), (1, .inl (sTrl A.1)), (2, .inl (sFro A.1)), (3, .inl (sIn A.1 0)), (4, .inl 1), (5, .inl (A.1 535)), (0, .inr (some 175))] [] M := by
  have hf := hk_all hO.1.2 hk
  rcases (show A.1 (360 + 10 * k + 3) = 0 ∨ A.1 (360 + 10 * k + 3) = 1 ∨ A.1 (360 + 10 * k + 3) = 2 by omega) with hs | hs | hs
  · refine z_iload dL_hangs_1001 rfl ?_
    refine z_iload dL_hangs_1003 rfl ?_
    refine z_if_ne (tgt := 1012) dL_hangs_1005 (by decide) (by omega) (fun c1005 => ?_) (fun c1005 => ?_)
    · exact absurd trivial (by omega)
    · refine z_iconst dL_hangs_1008 ?_
      refine z_goto (tgt := 1013) dL_hangs_1009 (by decide) ?_
      refine z_iadd dL_hangs_1013 ?_
      refine z_istore dL_hangs_1014 (by decide) ?_
      refine z_iload dL_hangs_1016 rfl ?_
      refine z_iload dL_hangs_1018 rfl ?_
      refine z_iconst dL_hangs_1020 ?_
      refine z_icmp_ne (tgt := 1028) dL_hangs_1021 (by decide) (by omega) (by decide) (fun c1021 => ?_) (fun c1021 => ?_)
      · refine z_iconst dL_hangs_1028 ?_
        refine z_iadd dL_hangs_1029 ?_
        refine z_istore dL_hangs_1030 (by decide) ?_
        refine z_iload dL_hangs_1032 rfl ?_
        refine z_iload dL_hangs_1034 rfl ?_
        refine z_if_le (tgt := 1046) dL_hangs_1036 (by decide) (by omega) (fun c1036 => ?_) (fun c1036 => ?_)
        · refine z_iconst dL_hangs_1046 ?_
          refine z_ior (a := R) dL_hangs_1047 (Nat.lt_trans h6.1 (by decide)) (by first | exact (show 0 < 1048576 by decide) | exact rk_p (by omega)) ?_
          refine z_istore dL_hangs_1048 (by decide) ?_
          refine z_iload dL_hangs_1050 rfl ?_
          refine z_aload_n dL_hangs_1052 rfl ?_
          refine z_iload dL_hangs_1053 rfl ?_
          refine z_iconst dL_hangs_1055 ?_
          refine z_callV mX4_snail (t_sn (w := 5) hk (by decide) hO) rfl dL_hangs_1056 kL_55 (by decide) rfl (by show _ ≤ 8; simp) (by decide) (zsh175) (by decide) rfl (fun v1056 M1056 q1056 => ?_)
          obtain ⟨rfl, hO⟩ := q1056
          try simp only [zpush]
          refine z_iadd dL_hangs_1059 ?_
          refine z_istore dL_hangs_1060 (by decide) ?_
          refine z_iload dL_hangs_1062 rfl ?_
          refine z_aload_n dL_hangs_1064 rfl ?_
          refine z_iload dL_hangs_1065 rfl ?_
          refine z_bipush dL_hangs_1067 (by decide) ?_
          refine z_callV mX4_snail (t_sn (w := 6) hk (by decide) hO) rfl dL_hangs_1069 kL_55 (by decide) rfl (by show _ ≤ 8; simp) (by decide) (zsh175) (by decide) rfl (fun v1069 M1069 q1069 => ?_)
          obtain ⟨rfl, hO⟩ := q1069
          try simp only [zpush]
          refine z_iadd dL_hangs_1072 ?_
          refine z_istore dL_hangs_1073 (by decide) ?_
          refine z_iload dL_hangs_1075 rfl ?_
          refine z_aload_n dL_hangs_1077 rfl ?_
          refine z_iload dL_hangs_1078 rfl ?_
          refine z_bipush dL_hangs_1080 (by decide) ?_
          refine z_callV mX4_snail (t_sn (w := 7) hk (by decide) hO) rfl dL_hangs_1082 kL_55 (by decide) rfl (by show _ ≤ 8; simp) (by decide) (zsh175) (by decide) rfl (fun v1082 M1082 q1082 => ?_)
          obtain ⟨rfl, hO⟩ := q1082
          try simp only [zpush]
          refine z_iadd dL_hangs_1085 ?_
          refine z_istore dL_hangs_1086 (by decide) ?_
          refine z_iinc dL_hangs_1088 rfl (by decide) ?_
          refine z_goto (tgt := 396) dL_hangs_1091 (by decide) ?_
          exact zsub' (k396 _ hO _ _ _ _ _ _ (zsum_nextF hk.2 h1 (by unfold sInF; first | rw [if_pos (by omega)] | rw [if_neg (by omega)])) (zsum_nextF hk.2 h2 (by unfold sInF; first | rw [if_pos (by omega)] | rw [if_neg (by omega)])) (zsum_nextF hk.2 h3 rfl) (zsum_nextF hk.2 h4 rfl) (zsum_nextF hk.2 h5 rfl) (by first | exact rkB_n h6 (by omega) | exact rkB_s h6 hk.1 (by omega))) ⟨rfl, rfl, rfl, rfl, rfl, rfl, rfl, rfl, rfl, rfl, rfl, rfl, rfl, trivial⟩
        · exact absurd trivial (by omega)
      · exact absurd trivial (by omega)
  · refine z_iload dL_hangs_1001 rfl ?_
    refine z_iload dL_hangs_1003 rfl ?_
    refine z_if_ne (tgt := 1012) dL_hangs_1005 (by decide) (by omega) (fun c1005 => ?_) (fun c1005 => ?_)
    · refine z_iconst dL_hangs_1012 ?_
      refine z_iadd dL_hangs_1013 ?_
      refine z_istore dL_hangs_1014 (by decide) ?_
      refine z_iload dL_hangs_1016 rfl ?_
      refine z_iload dL_hangs_1018 rfl ?_
      refine z_iconst dL_hangs_1020 ?_
      refine z_icmp_ne (tgt := 1028) dL_hangs_1021 (by decide) (by omega) (by decide) (fun c1021 => ?_) (fun c1021 => ?_)
      · exact absurd trivial (by omega)
      · refine z_iconst dL_hangs_1024 ?_
        refine z_goto (tgt := 1029) dL_hangs_1025 (by decide) ?_
        refine z_iadd dL_hangs_1029 ?_
        refine z_istore dL_hangs_1030 (by decide) ?_
        refine z_iload dL_hangs_1032 rfl ?_
        refine z_iload dL_hangs_1034 rfl ?_
        refine z_if_le (tgt := 1046) dL_hangs_1036 (by decide) (by omega) (fun c1036 => ?_) (fun c1036 => ?_)
        · exact absurd trivial (by omega)
        · refine z_iconst dL_hangs_1039 ?_
          refine z_iload dL_hangs_1040 rfl ?_
          rw [show cRk A.1 k = A.1 (360 + 10 * k + 4) by omega]
          refine z_ishl dL_hangs_1042 (by omega) ?_
          refine z_goto (tgt := 1047) dL_hangs_1043 (by decide) ?_
          refine z_ior (a := R) dL_hangs_1047 (Nat.lt_trans h6.1 (by decide)) (by first | exact (show 0 < 1048576 by decide) | exact rk_p (by omega)) ?_
          refine z_istore dL_hangs_1048 (by decide) ?_
          refine z_iload dL_hangs_1050 rfl ?_
          refine z_aload_n dL_hangs_1052 rfl ?_
          refine z_iload dL_hangs_1053 rfl ?_
          refine z_iconst dL_hangs_1055 ?_
          refine z_callV mX4_snail (t_sn (w := 5) hk (by decide) hO) rfl dL_hangs_1056 kL_55 (by decide) rfl (by show _ ≤ 8; simp) (by decide) (zsh175) (by decide) rfl (fun v1056 M1056 q1056 => ?_)
          obtain ⟨rfl, hO⟩ := q1056
          try simp only [zpush]
          refine z_iadd dL_hangs_1059 ?_
          refine z_istore dL_hangs_1060 (by decide) ?_
          refine z_iload dL_hangs_1062 rfl ?_
          refine z_aload_n dL_hangs_1064 rfl ?_
          refine z_iload dL_hangs_1065 rfl ?_
          refine z_bipush dL_hangs_1067 (by decide) ?_
          refine z_callV mX4_snail (t_sn (w := 6) hk (by decide) hO) rfl dL_hangs_1069 kL_55 (by decide) rfl (by show _ ≤ 8; simp) (by decide) (zsh175) (by decide) rfl (fun v1069 M1069 q1069 => ?_)
          obtain ⟨rfl, hO⟩ := q1069
          try simp only [zpush]
          refine z_iadd dL_hangs_1072 ?_
          refine z_istore dL_hangs_1073 (by decide) ?_
          refine z_iload dL_hangs_1075 rfl ?_
          refine z_aload_n dL_hangs_1077 rfl ?_
          refine z_iload dL_hangs_1078 rfl ?_
          refine z_bipush dL_hangs_1080 (by decide) ?_
          refine z_callV mX4_snail (t_sn (w := 7) hk (by decide) hO) rfl dL_hangs_1082 kL_55 (by decide) rfl (by show _ ≤ 8; simp) (by decide) (zsh175) (by decide) rfl (fun v1082 M1082 q1082 => ?_)
          obtain ⟨rfl, hO⟩ := q1082
          try simp only [zpush]
          refine z_iadd dL_hangs_1085 ?_
          refine z_istore dL_hangs_1086 (by decide) ?_
          refine z_iinc dL_hangs_1088 rfl (by decide) ?_
          refine z_goto (tgt := 396) dL_hangs_1091 (by decide) ?_
          exact zsub' (k396 _ hO _ _ _ _ _ _ (zsum_nextF hk.2 h1 (by unfold sInF; first | rw [if_pos (by omega)] | rw [if_neg (by omega)])) (zsum_nextF hk.2 h2 (by unfold sInF; first | rw [if_pos (by omega)] | rw [if_neg (by omega)])) (zsum_nextF hk.2 h3 rfl) (zsum_nextF hk.2 h4 rfl) (zsum_nextF hk.2 h5 rfl) (by first | exact rkB_n h6 (by omega) | exact rkB_s h6 hk.1 (by omega))) ⟨rfl, rfl, rfl, rfl, rfl, rfl, rfl, rfl, rfl, rfl, rfl, rfl, rfl, trivial⟩
    · exact absurd trivial (by omega)
  · refine z_iload dL_hangs_1001 rfl ?_
    refine z_iload dL_hangs_1003 rfl ?_
    refine z_if_ne (tgt := 1012) dL_hangs_1005 (by decide) (by omega) (fun c1005 => ?_) (fun c1005 => ?_)
    · refine z_iconst dL_hangs_1012 ?_
      refine z_iadd dL_hangs_1013 ?_
      refine z_istore dL_hangs_1014 (by decide) ?_
      refine z_iload dL_hangs_1016 rfl ?_
      refine z_iload dL_hangs_1018 rfl ?_
      refine z_iconst dL_hangs_1020 ?_
      refine z_icmp_ne (tgt := 1028) dL_hangs_1021 (by decide) (by omega) (by decide) (fun c1021 => ?_) (fun c1021 => ?_)
      · refine z_iconst dL_hangs_1028 ?_
        refine z_iadd dL_hangs_1029 ?_
        refine z_istore dL_hangs_1030 (by decide) ?_
        refine z_iload dL_hangs_1032 rfl ?_
        refine z_iload dL_hangs_1034 rfl ?_
        refine z_if_le (tgt := 1046) dL_hangs_1036 (by decide) (by omega) (fun c1036 => ?_) (fun c1036 => ?_)
        · refine z_iconst dL_hangs_1046 ?_
          refine z_ior (a := R) dL_hangs_1047 (Nat.lt_trans h6.1 (by decide)) (by first | exact (show 0 < 1048576 by decide) | exact rk_p (by omega)) ?_
          refine z_istore dL_hangs_1048 (by decide) ?_
          refine z_iload dL_hangs_1050 rfl ?_
          refine z_aload_n dL_hangs_1052 rfl ?_
          refine z_iload dL_hangs_1053 rfl ?_
          refine z_iconst dL_hangs_1055 ?_
          refine z_callV mX4_snail (t_sn (w := 5) hk (by decide) hO) rfl dL_hangs_1056 kL_55 (by decide) rfl (by show _ ≤ 8; simp) (by decide) (zsh175) (by decide) rfl (fun v1056 M1056 q1056 => ?_)
          obtain ⟨rfl, hO⟩ := q1056
          try simp only [zpush]
          refine z_iadd dL_hangs_1059 ?_
          refine z_istore dL_hangs_1060 (by decide) ?_
          refine z_iload dL_hangs_1062 rfl ?_
          refine z_aload_n dL_hangs_1064 rfl ?_
          refine z_iload dL_hangs_1065 rfl ?_
          refine z_bipush dL_hangs_1067 (by decide) ?_
          refine z_callV mX4_snail (t_sn (w := 6) hk (by decide) hO) rfl dL_hangs_1069 kL_55 (by decide) rfl (by show _ ≤ 8; simp) (by decide) (zsh175) (by decide) rfl (fun v1069 M1069 q1069 => ?_)
          obtain ⟨rfl, hO⟩ := q1069
          try simp only [zpush]
          refine z_iadd dL_hangs_1072 ?_
          refine z_istore dL_hangs_1073 (by decide) ?_
          refine z_iload dL_hangs_1075 rfl ?_
          refine z_aload_n dL_hangs_1077 rfl ?_
          refine z_iload dL_hangs_1078 rfl ?_
          refine z_bipush dL_hangs_1080 (by decide) ?_
          refine z_callV mX4_snail (t_sn (w := 7) hk (by decide) hO) rfl dL_hangs_1082 kL_55 (by decide) rfl (by show _ ≤ 8; simp) (by decide) (zsh175) (by decide) rfl (fun v1082 M1082 q1082 => ?_)
          obtain ⟨rfl, hO⟩ := q1082
          try simp only [zpush]
          refine z_iadd dL_hangs_1085 ?_
          refine z_istore dL_hangs_1086 (by decide) ?_
          refine z_iinc dL_hangs_1088 rfl (by decide) ?_
          refine z_goto (tgt := 396) dL_hangs_1091 (by decide) ?_
          exact zsub' (k396 _ hO _ _ _ _ _ _ (zsum_nextF hk.2 h1 (by unfold sInF; first | rw [if_pos (by omega)] | rw [if_neg (by omega)])) (zsum_nextF hk.2 h2 (by unfold sInF; first | rw [if_pos (by omega)] | rw [if_neg (by omega)])) (zsum_nextF hk.2 h3 rfl) (zsum_nextF hk.2 h4 rfl) (zsum_nextF hk.2 h5 rfl) (by first | exact rkB_n h6 (by omega) | exact rkB_s h6 hk.1 (by omega))) ⟨rfl, rfl, rfl, rfl, rfl, rfl, rfl, rfl, rfl, rfl, rfl, rfl, rfl, trivial⟩
        · exact absurd trivial (by omega)
      · exact absurd trivial (by omega)
    · exact absurd trivial (by omega)

theorem hg_snails {G : zG} {Q : Option zV → zM → Prop} {b : Int} {A : wAb} (k1094 : ∀ (N : zM) (R : Nat), zO b N A → rkB A.1 (A.1 535) R → zW G YL_hangs Q 1094 [(6, .inl (sIn A.1 0)), (7, .inl (sIn A.1 1)), (8, .inl (sOf A.1 5)), (9, .inl (sOf A.1 6)), (10, .inl (sOf A.1 7)), (11, .inl (R : Int)), (1, .inl (sTrl A.1)), (2, .inl (sFro A.1)), (3, .inl (sIn A.1 0)), (4, .inl 1), (5, .inl (A.1 535)), (0, .inr (some 175))] [] N) : ∀ (n : Nat) (k cr en st bo re : Int) (R : Nat) (M : zM), zO b M A → 0 ≤ k → k + n = A.1 535 → zfor (sInF A.1 0) k (A.1 535) cr = sIn A.1 0 → zfor (sInF A.1 1) k (A.1 535) en = sIn A.1 1 → zfor (fun k n => n + A.1 (360 + 10 * k + 5)) k (A.1 535) st = sOf A.1 5 → zfor (fun k n => n + A.1 (360 + 10 * k + 6)) k (A.1 535) bo = sOf A.1 6 → zfor (fun k n => n + A.1 (360 + 10 * k + 7)) k (A.1 535) re = sOf A.1 7 → rkB A.1 k R → zW G YL_hangs Q 396 [(12, .inl k), (6, .inl cr), (7, .inl en), (8, .inl st), (9, .inl bo), (10, .inl re), (11, .inl (R : Int)), (1, .inl (sTrl A.1)), (2, .inl (sFro A.1)), (3, .inl (sIn A.1 0)), (4, .inl 1), (5, .inl (A.1 535)), (0, .inr (some 175))] [] M
  | 0, k, cr, en, st, bo, re, R, M, hO, hk, hkn, h1, h2, h3, h4, h5, h6 => by
    have hm := zI_m hO.1.2.1.1.1
    rw [zfor_end (by omega)] at h1 h2 h3 h4 h5
    rw [h1, h2, h3, h4, h5]
    refine z_iload dL_hangs_396 rfl ?_
    refine z_iload dL_hangs_398 rfl ?_
    refine z_icmp_ge (tgt := 1094) dL_hangs_400 (by decide) (by omega) (by omega) (fun c => ?_) (fun c => absurd trivial (by omega))
    rw [show k = A.1 535 by omega] at h6
    exact zsub' (k1094 _ R hO h6) ⟨rfl, rfl, rfl, rfl, rfl, rfl, rfl, rfl, rfl, rfl, rfl, rfl, trivial⟩
  | n + 1, k, cr, en, st, bo, re, R, M, hO, hk, hkn, h1, h2, h3, h4, h5, h6 => by
    have hm := zI_m hO.1.2.1.1.1
    have h8 := hO.1.2.1.2.1
    have hkk : 0 ≤ k ∧ k < A.1 535 := by omega
    refine z_iload dL_hangs_396 rfl ?_
    refine z_iload dL_hangs_398 rfl ?_
    refine z_icmp_ge (tgt := 1094) dL_hangs_400 (by decide) (by omega) (by omega) (fun c => absurd trivial (by omega)) (fun c => ?_)
    refine z_iload dL_hangs_403 rfl ?_
    refine z_bipush dL_hangs_405 (by decide) ?_
    refine z_icmp_ge (tgt := 1094) dL_hangs_407 (by decide) (by omega) (by decide) (fun c => absurd trivial (by omega)) (fun c => ?_)
    refine z_iload dL_hangs_410 rfl ?_
    refine z_if_eq (tgt := 1094) dL_hangs_412 (by decide) (by decide) (fun h => absurd h (by decide)) (fun _ => ?_)
    refine hgF hO hkk (fun N1 hO1 => ?_)
    refine hg_sum hkk (fun N2 hO2 => ?_) (A.1 535).toNat 0 0 N1 hO1 (by omega) (by omega) rfl
    refine hgG hO2 hkk (fun N3 hO3 => ?_)
    refine hgH hO3 hkk (fun N4 hO4 => ?_)
    refine hgI hO4 hkk (fun N5 hO5 => ?_)
    refine hgJ hO5 hkk (fun N6 hO6 => ?_)
    refine hg_steps hkk (fun N7 hO7 => ?_) 3 0 N6 hO6 (by omega) (by omega)
    refine hgN hO7 hkk h1 h2 h3 h4 h5 h6 (fun N8 hO8 cr2 en2 st2 bo2 re2 R2 e1 e2 e3 e4 e5 e6 => ?_)
    exact hg_snails k1094 n (k + 1) cr2 en2 st2 bo2 re2 R2 N8 hO8 (by omega) (by omega) e1 e2 e3 e4 e5 e6
