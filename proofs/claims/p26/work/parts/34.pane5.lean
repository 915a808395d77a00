theorem rel_dryS {M N : zM} {p : Int} {σ : zS} (h : zRel M p σ) (hI : zI σ) (hD : zDr M p 0 120 N) : zRel N p (sDry σ) := by
  have h4 := h.2.2.2.2.1.1
  refine rel_dry h hI hD.1 (fun c q1 q2 => ?_) (fun c q1 q2 => ?_) (fun j _ => rfl) (fun c _ _ _ => rfl)
  · have hc := h.1 c q1 q2
    unfold zRc at hc
    rw [(hD.2.1 c q1 q2).1]
    unfold zDv2
    repeat' split
    all_goals first | rfl | omega
  · have hc := h.1 c q1 q2
    unfold zRc at hc
    rw [(hD.2.1 c q1 q2).2]
    unfold zDv3
    repeat' split
    all_goals first | rfl | omega
theorem rel_dryA {M N : zM} {p : Int} {σ : zS} (h : zRel M p σ) (hI : zI σ) (hD : zDr M p 1 120 N) : zRel N p (sDry (sAge σ)) := by
  have h4 := h.2.2.2.2.1.1
  refine rel_dry h hI hD.1 (fun c q1 q2 => ?_) (fun c q1 q2 => ?_) (fun j q => sAge_o σ q) (fun c q1 q2 q3 => by rw [sAge_ag σ ⟨q1, q2⟩, if_neg (by omega), Int.add_zero])
  · have hc := h.1 c q1 q2
    unfold zRc at hc
    rw [(hD.2.1 c q1 q2).1, sAge_ag σ ⟨q1, q2⟩]
    unfold zDv2
    repeat' split
    all_goals first | rfl | omega
  · have hc := h.1 c q1 q2
    unfold zRc at hc
    rw [(hD.2.1 c q1 q2).2, sAge_ag σ ⟨q1, q2⟩]
    unfold zDv3
    repeat' split
    all_goals first | rfl | omega
theorem zDr.off {M N : zM} {p t : Int} (h : zDr M p t 120 N) : zOff M N p := fun a ha => h.1 a (by omega) (by omega)
theorem zGr.off {M N : zM} {p : Int} (h : zGr M p 120 N) : zOff M N p := fun a ha => h.1 a (by omega)
theorem rel_growS {M N : zM} {p : Int} {σ : zS} (h : zRel M p σ) (hI : zI σ) (hD : zGr M p 120 N) : zRel N p (sGrow 1 σ) := by
  refine rel_grow h hI hD.1 (fun c q1 q2 => ?_)
  have hc := h.1 c q1 q2
  unfold zRc at hc
  rw [hD.2.1 c q1 q2]
  congr 1
  repeat' split
  all_goals first | rfl | omega
theorem rel_hC {M : zM} {p : Int} {σ : zS} (h : zRel M p σ) (hI : zI σ) : ∀ c : Int, 0 ≤ c → c < 120 → (-5 ≤ M (p + 2) c ∧ M (p + 2) c ≤ 9) ∧ (-5 ≤ M (p + 3) c ∧ M (p + 3) c ≤ 100) := by
  intro c q1 q2
  have hc := h.1 c q1 q2
  have hi := hI.2.1 c q1 q2
  unfold zRc at hc
  unfold zIc at hi
  omega
theorem rel_hF {M : zM} {p : Int} {σ : zS} (h : zRel M p σ) (hI : zI σ) : ∀ c : Int, 0 ≤ c → c < 120 → (-5 ≤ M (p + 2) c ∧ M (p + 2) c ≤ 9) ∧ (0 ≤ M (p + 1) c ∧ M (p + 1) c ≤ 9) := by
  intro c q1 q2
  have hc := h.1 c q1 q2
  have hi := hI.2.1 c q1 q2
  unfold zRc at hc
  unfold zIc at hi
  omega
theorem rel_hS {M : zM} {p : Int} {σ : zS} (h : zRel M p σ) (hI : zI σ) : 0 ≤ M (p + 24) 0 ∧ M (p + 24) 0 ≤ 99 := by
  have h4 := h.2.2.2.2.1.1
  have hs := hI.1
  unfold zIs at hs
  omega
theorem rel_cnt {M N : zM} {p w : Int} {σ : zS} (h : zRel M p σ) (hI : zI σ) (h1 : N p 15 = σ 535) (h2 : ∀ j : Int, N (p + 7) j = M (p + 7) j) : zfor (fun k n => n + if N (p + 7) k = w then 1 else 0) 0 (N p 15) 0 = sIn σ w := by
  have hs := hI.1
  unfold zIs at hs
  rw [h1]
  unfold sIn
  refine zfor_cg (σ 535).toNat 0 0 (by omega) (fun i q1 q2 => ?_)
  have := h.2.1 i q1 q2
  unfold zRk at this
  funext x
  rw [h2, this.2.2.2.1]
def zNl (M : zM) (p k : Int) (σ : zS) (c : Int) (M1 : zM) : Prop := (∀ a : Int, a ≠ p + 10 → a ≠ p + 12 → a ≠ p + 13 → a ≠ p + 15 + k → M1 a = M a) ∧ (∀ j : Int, M1 (p + 10) j = if j = k ∧ sWhy σ k c = 0 then σ (360 + 10 * k + 6) + 1 else M (p + 10) j) ∧ (∀ j : Int, M1 (p + 12) j = if j = k then (if sWhy σ k c = 0 then σ (120 + c) - 1 else -5) else M (p + 12) j) ∧ (∀ j : Int, M1 (p + 13) j = if j = k then (if sWhy σ k c = 0 then (if σ (360 + 10 * k + 8) = σ (120 + c) then σ (360 + 10 * k + 9) + 1 else 1) else 0) else M (p + 13) j) ∧ (∀ j : Int, M1 (p + 15 + k) j = if j = σ (120 + c) - 1 ∧ sWhy σ k c = 0 then M (p + 15 + k) j + 1 else M (p + 15 + k) j)
theorem zNl.no {M : zM} {p k c : Int} {σ : zS} (hk : 0 ≤ k) (hy : ¬ sWhy σ k c = 0) : zNl M p k σ c (zm_up (zm_up M (p + 12) k (-5)) (p + 13) k 0) := by
  refine ⟨fun a q1 q2 q3 q4 => by rw [zm_up_off q3, zm_up_off q2], fun j => ?_, fun j => ?_, fun j => ?_, fun j => ?_⟩
  · rw [zm_up_off (by omega), zm_up_off (by omega), if_neg (fun q => hy q.2)]
  · rw [zm_up_off (by omega), zm_up_j, if_neg hy]
  · rw [zm_up_j, zm_up_off (by omega), if_neg hy]
  · rw [zm_up_off (by omega), zm_up_off (by omega), if_neg (fun q => hy q.2)]
theorem zNl.yes {M : zM} {p k c : Int} {σ : zS} (hk : 0 ≤ k) (hy : sWhy σ k c = 0) (hR : zRk M p σ k) (hw : M (p + 2) c = σ (120 + c) - 1) (h1 : 1 ≤ σ (120 + c)) : zNl M p k σ c (zm_up (zm_up (zm_up (zm_up M (p + 13) k (if M (p + 12) k = M (p + 2) c then M (p + 13) k + 1 else 1)) (p + 12) k (M (p + 2) c)) (p + 10) k (M (p + 10) k + 1)) (p + 15 + k) (M (p + 2) c) (M (p + 15 + k) (M (p + 2) c) + 1)) := by
  unfold zRk at hR
  rw [hw]
  refine ⟨fun a q1 q2 q3 q4 => by rw [zm_up_off q4, zm_up_off q1, zm_up_off q2, zm_up_off q3], fun j => ?_, fun j => ?_, fun j => ?_, fun j => ?_⟩
  · rw [zm_up_off (by omega), zm_up_j, zm_up_off (by omega), zm_up_off (by omega), hR.2.2.2.2.2.2.1]
    by_cases h : j = k
    · rw [if_pos h, if_pos ⟨h, hy⟩]
    · rw [if_neg h, if_neg (fun q => h q.1)]
  · rw [zm_up_off (by omega), zm_up_off (by omega), zm_up_j, zm_up_off (by omega), if_pos hy]
  · rw [zm_up_off (by omega), zm_up_off (by omega), zm_up_off (by omega), zm_up_j, if_pos hy, hR.2.2.2.2.2.2.2.2.2]
    by_cases h : j = k
    · rw [if_pos h, if_pos h]
      by_cases h8 : σ (360 + 10 * k + 8) = σ (120 + c)
      · rw [if_pos h8, if_pos (by omega)]
      · rw [if_neg h8, if_neg (by omega)]
    · rw [if_neg h, if_neg h]
  · rw [zm_up_j, zm_up_off (by omega), zm_up_off (by omega), zm_up_off (by omega)]
    by_cases h : j = σ (120 + c) - 1
    · rw [if_pos h, if_pos ⟨h, hy⟩, h]
    · rw [if_neg h, if_neg (fun q => h q.1)]
def zTkm (M1 : zM) (p k pr c0 ln row x9 : Int) : zM := zm_up (zm_up (zm_up (zm_up (zm_up (zm_up M1 (p + 6) k pr) (p + 9) k x9) (p + 2) c0 k) (p + 3) c0 0) (p + 4) k ln) (p + 5) k row
theorem rel_take {M M1 N : zM} {p k step : Int} {σ : zS} (h : zRel M p σ) (ho : zOk σ k step) (hX : zX σ) (h537 : 0 ≤ σ 537) (hk : 0 ≤ k ∧ k < σ 535) (hn : zNl M p k σ (sTo σ k step) M1)
    (hN : (¬ σ (360 + 10 * k + 1) + 1 = 19 ∧ N = zTkm M1 p k (σ (360 + 10 * k + 2) - sPr σ k step) (sFrom σ k) (sLn (σ (360 + 10 * k + 0)) step) (σ (360 + 10 * k + 1) + 1) (σ (360 + 10 * k + 5) + 1)) ∨ (σ (360 + 10 * k + 1) + 1 = 19 ∧ N = zm_up (zm_up (zTkm M1 p k (σ (360 + 10 * k + 2) - sPr σ k step) (sFrom σ k) (sLn (σ (360 + 10 * k + 0)) step) (σ (360 + 10 * k + 1) + 1) (σ (360 + 10 * k + 5) + 1)) (p + 8) k (σ 537 + 1)) (p + 7) k 1)) : zRel N p (sCreep σ k step) ∧ zOff M N p := by
  obtain ⟨n0, n10, n12, n13, n15⟩ := hn
  have hk9 : k < 9 := ho.2.1.2
  generalize hT : zTkm M1 p k (σ (360 + 10 * k + 2) - sPr σ k step) (sFrom σ k) (sLn (σ (360 + 10 * k + 0)) step) (σ (360 + 10 * k + 1) + 1) (σ (360 + 10 * k + 5) + 1) = T at hN
  have t0 : ∀ a : Int, a ≠ p + 2 → a ≠ p + 3 → a ≠ p + 4 → a ≠ p + 5 → a ≠ p + 6 → a ≠ p + 9 → T a = M1 a := fun a q2 q3 q4 q5 q6 q9 => by
    rw [← hT]; unfold zTkm
    rw [zm_up_off q5, zm_up_off q4, zm_up_off q3, zm_up_off q2, zm_up_off q9, zm_up_off q6]
  have t2 : ∀ j : Int, T (p + 2) j = if j = sFrom σ k then k else M (p + 2) j := fun j => by
    rw [← hT]; unfold zTkm
    rw [zm_up_off (by omega), zm_up_off (by omega), zm_up_off (by omega), zm_up_j, zm_up_off (by omega), zm_up_off (by omega), n0 (p + 2) (by omega) (by omega) (by omega) (by omega)]
  have t3 : ∀ j : Int, T (p + 3) j = if j = sFrom σ k then 0 else M (p + 3) j := fun j => by
    rw [← hT]; unfold zTkm
    rw [zm_up_off (by omega), zm_up_off (by omega), zm_up_j, zm_up_off (by omega), zm_up_off (by omega), zm_up_off (by omega), n0 (p + 3) (by omega) (by omega) (by omega) (by omega)]
  have t4 : ∀ j : Int, T (p + 4) j = if j = k then sLn (σ (360 + 10 * k + 0)) step else M (p + 4) j := fun j => by
    rw [← hT]; unfold zTkm
    rw [zm_up_off (by omega), zm_up_j, zm_up_off (by omega), zm_up_off (by omega), zm_up_off (by omega), zm_up_off (by omega), n0 (p + 4) (by omega) (by omega) (by omega) (by omega)]
  have t5 : ∀ j : Int, T (p + 5) j = if j = k then σ (360 + 10 * k + 1) + 1 else M (p + 5) j := fun j => by
    rw [← hT]; unfold zTkm
    rw [zm_up_j, zm_up_off (by omega), zm_up_off (by omega), zm_up_off (by omega), zm_up_off (by omega), zm_up_off (by omega), n0 (p + 5) (by omega) (by omega) (by omega) (by omega)]
  have t6 : ∀ j : Int, T (p + 6) j = if j = k then σ (360 + 10 * k + 2) - sPr σ k step else M (p + 6) j := fun j => by
    rw [← hT]; unfold zTkm
    rw [zm_up_off (by omega), zm_up_off (by omega), zm_up_off (by omega), zm_up_off (by omega), zm_up_off (by omega), zm_up_j, n0 (p + 6) (by omega) (by omega) (by omega) (by omega)]
  have t9 : ∀ j : Int, T (p + 9) j = if j = k then σ (360 + 10 * k + 5) + 1 else M (p + 9) j := fun j => by
    rw [← hT]; unfold zTkm
    rw [zm_up_off (by omega), zm_up_off (by omega), zm_up_off (by omega), zm_up_off (by omega), zm_up_j, zm_up_off (by omega), n0 (p + 9) (by omega) (by omega) (by omega) (by omega)]
  have tt : ∀ a : Int, a ≠ p + 2 → a ≠ p + 3 → a ≠ p + 4 → a ≠ p + 5 → a ≠ p + 6 → a ≠ p + 9 → a ≠ p + 10 → a ≠ p + 12 → a ≠ p + 13 → a ≠ p + 15 + k → T a = M a := fun a q2 q3 q4 q5 q6 q9 q10 q12 q13 q15 => (t0 a q2 q3 q4 q5 q6 q9).trans (n0 a q10 q12 q13 q15)
  have t15 : ∀ a j : Int, 0 ≤ a → a < 9 → T (p + 15 + a) j = if a = k ∧ j = σ (120 + sTo σ k step) - 1 ∧ sWhy σ k (sTo σ k step) = 0 then M (p + 15 + a) j + 1 else M (p + 15 + a) j := fun a j q1 q2 => by
    by_cases ha : a = k
    · subst ha
      rw [t0 (p + 15 + a) (by omega) (by omega) (by omega) (by omega) (by omega) (by omega), n15 j]
      by_cases hj : j = σ (120 + sTo σ a step) - 1 ∧ sWhy σ a (sTo σ a step) = 0
      · rw [if_pos hj, if_pos ⟨rfl, hj⟩]
      · rw [if_neg hj, if_neg (fun q => hj q.2)]
    · rw [if_neg (fun q => ha q.1), tt (p + 15 + a) (by omega) (by omega) (by omega) (by omega) (by omega) (by omega) (by omega) (by omega) (by omega) (by omega)]
  have t10 : ∀ j : Int, T (p + 10) j = if j = k ∧ sWhy σ k (sTo σ k step) = 0 then σ (360 + 10 * k + 6) + 1 else M (p + 10) j := fun j => by rw [t0 (p + 10) (by omega) (by omega) (by omega) (by omega) (by omega) (by omega), n10 j]
  have t12 : ∀ j : Int, T (p + 12) j = if j = k then (if sWhy σ k (sTo σ k step) = 0 then σ (120 + sTo σ k step) - 1 else -5) else M (p + 12) j := fun j => by rw [t0 (p + 12) (by omega) (by omega) (by omega) (by omega) (by omega) (by omega), n12 j]
  have t13 : ∀ j : Int, T (p + 13) j = if j = k then (if sWhy σ k (sTo σ k step) = 0 then (if σ (360 + 10 * k + 8) = σ (120 + sTo σ k step) then σ (360 + 10 * k + 9) + 1 else 1) else 0) else M (p + 13) j := fun j => by rw [t0 (p + 13) (by omega) (by omega) (by omega) (by omega) (by omega) (by omega), n13 j]
  have t7 : ∀ j : Int, T (p + 7) j = M (p + 7) j := fun j => by rw [tt (p + 7) (by omega) (by omega) (by omega) (by omega) (by omega) (by omega) (by omega) (by omega) (by omega) (by omega)]
  have t8 : ∀ j : Int, T (p + 8) j = M (p + 8) j := fun j => by rw [tt (p + 8) (by omega) (by omega) (by omega) (by omega) (by omega) (by omega) (by omega) (by omega) (by omega) (by omega)]
  rcases hN with ⟨hr, rfl⟩ | ⟨hr, rfl⟩
  · refine ⟨rel_creep h ho hX h537 hk (fun a ha => tt a (by omega) (by omega) (by omega) (by omega) (by omega) (by omega) (by omega) (by omega) (by omega) (by omega)) t2 t3 t4 t5 t6 (fun j => by rw [if_neg (fun q => hr q.2)]; exact t7 j) (fun j => by rw [if_neg (fun q => hr q.2)]; exact t8 j) t9 t10 t12 t13 t15, fun a ha => tt a (by omega) (by omega) (by omega) (by omega) (by omega) (by omega) (by omega) (by omega) (by omega) (by omega)⟩
  · refine ⟨rel_creep h ho hX h537 hk (fun a ha => by rw [zm_up_off (by omega), zm_up_off (by omega)]; exact tt a (by omega) (by omega) (by omega) (by omega) (by omega) (by omega) (by omega) (by omega) (by omega) (by omega)) (fun j => by rw [zm_up_off (by omega), zm_up_off (by omega)]; exact t2 j) (fun j => by rw [zm_up_off (by omega), zm_up_off (by omega)]; exact t3 j) (fun j => by rw [zm_up_off (by omega), zm_up_off (by omega)]; exact t4 j) (fun j => by rw [zm_up_off (by omega), zm_up_off (by omega)]; exact t5 j) (fun j => by rw [zm_up_off (by omega), zm_up_off (by omega)]; exact t6 j) (fun j => ?_) (fun j => ?_) (fun j => by rw [zm_up_off (by omega), zm_up_off (by omega)]; exact t9 j) (fun j => by rw [zm_up_off (by omega), zm_up_off (by omega)]; exact t10 j) (fun j => by rw [zm_up_off (by omega), zm_up_off (by omega)]; exact t12 j) (fun j => by rw [zm_up_off (by omega), zm_up_off (by omega)]; exact t13 j) (fun a j q1 q2 => by rw [zm_up_off (by omega), zm_up_off (by omega)]; exact t15 a j q1 q2), fun a ha => ?_⟩
    · rw [zm_up_j, zm_up_off (by omega), t7]
      by_cases hj : j = k
      · rw [if_pos hj, if_pos ⟨hj, hr⟩]
      · rw [if_neg hj, if_neg (fun q => hj q.1)]
    · rw [zm_up_off (by omega), zm_up_j, t8]
      by_cases hj : j = k
      · rw [if_pos hj, if_pos ⟨hj, hr⟩]
      · rw [if_neg hj, if_neg (fun q => hj q.1)]
    · rw [zm_up_off (by omega), zm_up_off (by omega)]
      exact tt a (by omega) (by omega) (by omega) (by omega) (by omega) (by omega) (by omega) (by omega) (by omega) (by omega)

theorem vX1_changeSetting {G : zG} {M : zM} {σ : zS} {p w x : Int} (hp : zP p) (hR : zRel M p σ) (hw : -2147483648 ≤ w ∧ w < 2147483648) (hx : -2147483648 ≤ x ∧ x < 2147483648) (hI : zI σ) : zCall G yX1_changeSetting YX1_changeSetting [.inr (some p), .inl w, .inl x] M (fun v M' => (sBarSet σ w x < 0 ∧ v = some (.inl (sBarSet σ w x)) ∧ M' = M) ∨ (sBarSet σ w x = 0 ∧ v = some (.inl (σ (531 + w))) ∧ zRel M' p (sDry (zu σ (531 + w) x)) ∧ zOff M M' p)) := by
  refine zEnter (by decide +kernel) rfl (Nat.le_of_ble_eq_true rfl) ?_
  have hs9 := hI.1
  unfold zIs at hs9
  have hR5 := hR.2.2.2.2.2.1
  have hR6 := hR.2.2.2.2.2.2
  have hR4 := hR.2.2.2.2.1
  refine z_iload_n dX1_changeSetting_0 rfl ?_
  refine z_if_lt (tgt := 13) dX1_changeSetting_1 (by decide) (by omega) (fun c1 => ?_) (fun c1 => ?_)
  · refine z_iconst dX1_changeSetting_13 ?_
    refine z_iret dX1_changeSetting_14 rfl ?_
    have hb : sBarSet σ w x = -1 := by
      unfold sBarSet
      repeat' split
      all_goals first | rfl | omega
    exact Or.inl ⟨by omega, by rw [hb], rfl⟩
  · refine z_iload_n dX1_changeSetting_4 rfl ?_
    refine z_aload_n dX1_changeSetting_5 rfl ?_
    refine z_getR (b := (p + 24)) dX1_changeSetting_6 fX1_64 (zP_r0 hp) (zm_sh_p0 hp) rfl rfl ?_
    refine z_alen dX1_changeSetting_9 (zP_r hp 24 (by decide)) (zm_sh_p hp 24 (by decide)) (by decide) ?_
    refine z_icmp_lt (tgt := 15) dX1_changeSetting_10 (by decide) (by omega) (by omega) (fun c10 => ?_) (fun c10 => ?_)
    · have hmo : sMost w ≤ 99 ∧ 9 ≤ sMost w := by unfold sMost; repeat' split <;> omega
      refine z_iload_n dX1_changeSetting_15 rfl ?_
      refine z_getstN (t := 1) dX1_changeSetting_16 (by decide) sX1_105 ?_
      refine z_iload_n dX1_changeSetting_19 rfl ?_
      refine z_stload (x := if w = 0 then 0 else 1) (t := 1) dX1_changeSetting_20 rfl (by decide) (by show _ ∧ _ < (4 : Int); omega) (by rcases (show w = 0 ∨ w = 1 ∨ w = 2 ∨ w = 3 by omega) with h | h | h | h <;> (rw [h]; rfl)) ?_
      refine z_icmp_lt (tgt := 33) dX1_changeSetting_21 (by decide) (by omega) (by omega) (fun c21 => ?_) (fun c21 => ?_)
      · refine z_bipush dX1_changeSetting_33 (by decide) ?_
        refine z_iret dX1_changeSetting_35 rfl ?_
        have hb : sBarSet σ w x = -2 := by
          unfold sBarSet
          repeat' split
          all_goals first | rfl | omega
        exact Or.inl ⟨by omega, by rw [hb], rfl⟩
      · refine z_iload_n dX1_changeSetting_24 rfl ?_
        refine z_getstN (t := 2) dX1_changeSetting_25 (by decide) sX1_108 ?_
        refine z_iload_n dX1_changeSetting_28 rfl ?_
        refine z_stload (x := sMost w) (t := 2) dX1_changeSetting_29 rfl (by decide) (by show _ ∧ _ < (4 : Int); omega) (by rcases (show w = 0 ∨ w = 1 ∨ w = 2 ∨ w = 3 by omega) with h | h | h | h <;> (rw [h]; rfl)) ?_
        refine z_icmp_le (tgt := 36) dX1_changeSetting_30 (by decide) (by omega) (by omega) (fun c30 => ?_) (fun c30 => ?_)
        · refine z_aload_n dX1_changeSetting_36 rfl ?_
          refine z_getR (b := (p + 24)) dX1_changeSetting_37 fX1_64 (zP_r0 hp) (zm_sh_p0 hp) rfl rfl ?_
          refine z_iload_n dX1_changeSetting_40 rfl ?_
          refine z_iaload dX1_changeSetting_41 (zP_r hp 24 (by decide)) (zm_sh_p hp 24 (by decide)) (by omega) (by decide) ?_
          have hg : M (p + 24) w = σ (531 + w) := by
            rcases (show w = 0 ∨ w = 1 ∨ w = 2 ∨ w = 3 by omega) with h | h | h | h
            · subst h; exact hR4.1
            · subst h; exact hR4.2.1
            · subst h; exact hR4.2.2.1
            · subst h; exact hR4.2.2.2
          refine z_istore_n dX1_changeSetting_42 (by decide) ?_
          have hgr : -2147483648 ≤ M (p + 24) w ∧ M (p + 24) w < 2147483648 := by
            rcases (show w = 0 ∨ w = 1 ∨ w = 2 ∨ w = 3 by omega) with h | h | h | h <;> (subst h; omega)
          refine z_iload_n dX1_changeSetting_43 rfl ?_
          refine z_iload_n dX1_changeSetting_44 rfl ?_
          refine z_icmp_ne (tgt := 51) dX1_changeSetting_45 (by decide) (by omega) (by omega) (fun c45 => ?_) (fun c45 => ?_)
          · refine z_aload_n dX1_changeSetting_51 rfl ?_
            refine z_getR (b := (p + 24)) dX1_changeSetting_52 fX1_64 (zP_r0 hp) (zm_sh_p0 hp) rfl rfl ?_
            refine z_iload_n dX1_changeSetting_55 rfl ?_
            refine z_iload_n dX1_changeSetting_56 rfl ?_
            refine z_niast dX1_changeSetting_57 (zP_r hp 24 (by decide)) (zm_sh_p hp 24 (by decide)) (by omega) (by decide) (fun N57 hN57 => ?_)
            have hR2 := rel_set (x := x) hR hI (show 0 ≤ w ∧ w ≤ 3 by omega)
            have hI2 := zI_set (x := x) hI (show 0 ≤ w ∧ w ≤ 3 by omega) (by omega)
            rw [← hN57] at hR2
            refine z_aload_n dX1_changeSetting_58 rfl ?_
            refine z_iconst dX1_changeSetting_59 ?_
            refine z_callV mX1_dryTrails (vX1_dryTrails hp (by omega) (rel_hC hR2 hI2) (rel_hS hR2 hI2)) rfl dX1_changeSetting_60 kX1_111 (by decide) rfl (by show _ ≤ 8; simp) (zP_r0 hp) (zm_sh_p0 hp) (by decide) rfl (fun v60 M60 q60 => ?_)
            obtain ⟨rfl, hD⟩ := q60
            try simp only [zpush]
            refine z_iload_n dX1_changeSetting_63 rfl ?_
            refine z_iret dX1_changeSetting_64 rfl ?_
            refine Or.inr ⟨?_, by rw [hg], rel_dryS hR2 hI2 hD, fun a ha => by rw [hD.off a ha, hN57, zm_up_off (by omega)]⟩
            unfold sBarSet
            rw [if_neg (by omega), if_neg (by omega), if_neg (by omega)]
          · refine z_bipush dX1_changeSetting_48 (by decide) ?_
            refine z_iret dX1_changeSetting_50 rfl ?_
            have hb : sBarSet σ w x = -5 := by
              unfold sBarSet
              repeat' split
              all_goals first | rfl | omega
            exact Or.inl ⟨by omega, by rw [hb], rfl⟩
        · refine z_bipush dX1_changeSetting_33 (by decide) ?_
          refine z_iret dX1_changeSetting_35 rfl ?_
          have hb : sBarSet σ w x = -2 := by
            unfold sBarSet
            repeat' split
            all_goals first | rfl | omega
          exact Or.inl ⟨by omega, by rw [hb], rfl⟩
    · refine z_iconst dX1_changeSetting_13 ?_
      refine z_iret dX1_changeSetting_14 rfl ?_
      have hb : sBarSet σ w x = -1 := by
        unfold sBarSet
        repeat' split
        all_goals first | rfl | omega
      exact Or.inl ⟨by omega, by rw [hb], rfl⟩

theorem vX1_rest {G : zG} {M : zM} {σ : zS} {p k : Int} (hp : zP p) (hR : zRel M p σ) (hk : 0 ≤ k ∧ k < σ 535) (hI : zI σ) : zCall G yX1_rest YX1_rest [.inr (some p), .inl k] M (fun v M' => v = none ∧ zRel M' p (sRest σ k) ∧ zOff M M' p) := by
  refine zEnter (by decide +kernel) rfl (Nat.le_of_ble_eq_true rfl) ?_
  have hs9 := hI.1
  unfold zIs at hs9
  have hR5 := hR.2.2.2.2.2.1
  have hR6 := hR.2.2.2.2.2.2
  have hR4 := hR.2.2.2.2.1
  have hk9 := hI.2.2 k (by omega) (by omega)
  unfold zIk at hk9
  have hkR := hR.2.1 k (by omega) (by omega)
  unfold zRk at hkR
  refine z_aload_n dX1_rest_0 rfl ?_
  refine z_getR (b := (p + 6)) dX1_rest_1 fX1_27 (zP_r0 hp) (zm_sh_p0 hp) rfl rfl ?_
  refine z_iload_n dX1_rest_4 rfl ?_
  refine z_aload_n dX1_rest_5 rfl ?_
  refine z_getR (b := (p + 6)) dX1_rest_6 fX1_27 (zP_r0 hp) (zm_sh_p0 hp) rfl rfl ?_
  refine z_iload_n dX1_rest_9 rfl ?_
  refine z_iaload dX1_rest_10 (zP_r hp 6 (by decide)) (zm_sh_p hp 6 (by decide)) (by omega) (by decide) ?_
  refine z_aload_n dX1_rest_11 rfl ?_
  refine z_getR (b := (p + 24)) dX1_rest_12 fX1_64 (zP_r0 hp) (zm_sh_p0 hp) rfl rfl ?_
  refine z_iconst dX1_rest_15 ?_
  refine z_iaload dX1_rest_16 (zP_r hp 24 (by decide)) (zm_sh_p hp 24 (by decide)) (by omega) (by decide) ?_
  refine z_iadd dX1_rest_17 ?_
  refine z_bipush dX1_rest_18 (by decide) ?_
  refine z_min dX1_rest_20 kX1_153 pMinS pMinI pMinC (by decide) (Nat.le_of_ble_eq_true rfl) (by omega) (by omega) ?_
  refine z_niast dX1_rest_23 (zP_r hp 6 (by decide)) (zm_sh_p hp 6 (by decide)) (by omega) (by decide) (fun N23 hN23 => ?_)
  refine z_aload_n dX1_rest_24 rfl ?_
  refine z_getR (b := (p + 11)) dX1_rest_25 fX1_42 (zP_r0 hp) (zm_sh_p0 hp) rfl rfl ?_
  refine z_iload_n dX1_rest_28 rfl ?_
  refine z_dup2 dX1_rest_29 ?_
  refine z_iaload dX1_rest_30 (zP_r hp 11 (by decide)) (zm_sh_p hp 11 (by decide)) (by omega) (by decide) ?_
  refine z_iconst dX1_rest_31 ?_
  refine z_iadd dX1_rest_32 ?_
  refine z_niast dX1_rest_33 (zP_r hp 11 (by decide)) (zm_sh_p hp 11 (by decide)) (by omega) (by decide) (fun N33 hN33 => ?_)
  have g15 : N33 p 15 = σ 535 := by rw [hN33, zm_up_off (by omega), hN23, zm_up_off (by omega), hR5]
  have g12 : N33 (p + 12) k = M (p + 12) k := by rw [hN33, zm_up_off (by omega), hN23, zm_up_off (by omega)]
  refine z_aload_n dX1_rest_34 rfl ?_
  refine z_iload_n dX1_rest_35 rfl ?_
  refine z_bipush dX1_rest_36 (by decide) ?_
  refine z_callV mX1_noteLender (vX1_noteLender hp (by omega) (by omega) (by omega) (by omega)) rfl dX1_rest_38 kX1_150 (by decide) rfl (by show _ ≤ 8; simp) (zP_r0 hp) (zm_sh_p0 hp) (by decide) rfl (fun v38 M38 q38 => ?_)
  obtain ⟨rfl, hn⟩ := q38
  try simp only [zpush]
  refine z_vret dX1_rest_41 rfl ?_
  rcases hn with ⟨_, rfl⟩ | ⟨hz, _⟩
  · subst hN33
    subst hN23
    refine ⟨rfl, rel_rest hR hI hk (fun a q1 q2 q3 q4 => by rw [zm_up_off q4, zm_up_off q3, zm_up_off q2, zm_up_off q1]) (fun j => ?_) (fun j => ?_) (fun j => ?_) (fun j => ?_), fun a ha => by repeat rw [zm_up_off (by omega)]⟩
    · rw [zm_up_off (by omega), zm_up_off (by omega), zm_up_off (by omega), zm_up_j]
      congr 1
      rw [hkR.2.2.1, hR4.2.2.1]
      split <;> omega
    · rw [zm_up_off (by omega), zm_up_off (by omega), zm_up_j, zm_up_off (by omega)]
    · rw [zm_up_off (by omega), zm_up_j, zm_up_off (by omega), zm_up_off (by omega)]
    · rw [zm_up_j, zm_up_off (by omega), zm_up_off (by omega), zm_up_off (by omega)]
  · exfalso; omega

theorem vX1_takeStep {G : zG} {M : zM} {σ : zS} {p k step : Int} (hp : zP p) (hR : zRel M p σ) (ho : zOk σ k step) (hk : 0 ≤ k ∧ k < σ 535) (hX : zX σ) (h537 : 0 ≤ σ 537) : zCall G yX1_takeStep YX1_takeStep [.inr (some p), .inl k, .inl step] M (fun v M' => v = none ∧ zRel M' p (sCreep σ k step) ∧ zOff M M' p) := by
  refine zEnter (by decide +kernel) rfl (Nat.le_of_ble_eq_true rfl) ?_
  have hI := ho.1
  have hs9 := hI.1
  unfold zIs at hs9
  have hR5 := hR.2.2.2.2.2.1
  have hR6 := hR.2.2.2.2.2.2
  have hR4 := hR.2.2.2.2.1
  have hr := ho.r
  have hkR0 := hR.2.1 k (by omega) (by omega)
  have hpr := sPr_r hI (k := k) (by omega) step
  have hok := sPr_ok ho.2.2.2
  have hst := ho.2.2.1
  have hne := ho.2.2.2
  have hk9 := hI.2.2 k (by omega) (by omega)
  unfold zIk at hk9
  have hkR := hR.2.1 k (by omega) (by omega)
  unfold zRk at hkR
  refine z_aload_n dX1_takeStep_0 rfl ?_
  refine z_iload_n dX1_takeStep_1 rfl ?_
  refine z_iload_n dX1_takeStep_2 rfl ?_
  refine z_callV mX1_stepCost (vX1_stepCost hp hR hk ho.2.2.1 hI) rfl dX1_takeStep_3 kX1_141 (by decide) rfl (by show _ ≤ 8; simp) (zP_r0 hp) (zm_sh_p0 hp) (by decide) rfl (fun v3 M3 q3 => ?_)
  obtain ⟨rfl, rfl⟩ := q3
  try simp only [zpush]
  refine z_istore_n dX1_takeStep_6 (by decide) ?_
  refine z_iload_n dX1_takeStep_7 rfl ?_
  refine z_bipush dX1_takeStep_8 (by decide) ?_
  refine z_icmp_ne (tgt := 14) dX1_takeStep_10 (by decide) (by omega) (by omega) (fun c10 => ?_) (fun c10 => ?_)
  · refine z_aload_n dX1_takeStep_14 rfl ?_
    refine z_getR (b := (p + 4)) dX1_takeStep_15 fX1_21 (zP_r0 hp) (zm_sh_p0 hp) rfl rfl ?_
    refine z_iload_n dX1_takeStep_18 rfl ?_
    refine z_iaload dX1_takeStep_19 (zP_r hp 4 (by decide)) (zm_sh_p hp 4 (by decide)) (by omega) (by decide) ?_
    refine z_aload_n dX1_takeStep_20 rfl ?_
    refine z_getR (b := (p + 5)) dX1_takeStep_21 fX1_24 (zP_r0 hp) (zm_sh_p0 hp) rfl rfl ?_
    refine z_iload_n dX1_takeStep_24 rfl ?_
    refine z_iaload dX1_takeStep_25 (zP_r hp 5 (by decide)) (zm_sh_p hp 5 (by decide)) (by omega) (by decide) ?_
    rw [hkR.1, hkR.2.1]
    refine z_callSN mX4_cellAt (vX4_cellAt (by omega) (by omega)) rfl dX1_takeStep_26 kX1_98 (by decide) rfl (by show _ ≤ 8; simp) (fun v26 M26 q26 => ?_)
    obtain ⟨rfl, c26, rfl, h26⟩ := q26
    try simp only [zpush]
    have hf : c26 = sFrom σ k := by unfold sFrom; omega
    subst hf
    refine z_istore dX1_takeStep_29 (by decide) ?_
    refine z_aload_n dX1_takeStep_31 rfl ?_
    refine z_getR (b := (p + 4)) dX1_takeStep_32 fX1_21 (zP_r0 hp) (zm_sh_p0 hp) rfl rfl ?_
    refine z_iload_n dX1_takeStep_35 rfl ?_
    refine z_iaload dX1_takeStep_36 (zP_r hp 4 (by decide)) (zm_sh_p hp 4 (by decide)) (by omega) (by decide) ?_
    refine z_getstN (t := 0) dX1_takeStep_37 (by decide) sX1_128 ?_
    refine z_iload_n dX1_takeStep_40 rfl ?_
    refine z_stload (x := sLn 0 step) (t := 0) dX1_takeStep_41 rfl (by decide) (by show _ ∧ _ < (3 : Int); omega) (by rcases (show step = 0 ∨ step = 1 ∨ step = 2 by omega) with h | h | h <;> (rw [h]; rfl)) ?_
    refine z_iadd dX1_takeStep_42 ?_
    rw [hkR.1, sLn_add]
    refine z_istore dX1_takeStep_43 (by decide) ?_
    refine z_aload_n dX1_takeStep_45 rfl ?_
    refine z_getR (b := (p + 5)) dX1_takeStep_46 fX1_24 (zP_r0 hp) (zm_sh_p0 hp) rfl rfl ?_
    refine z_iload_n dX1_takeStep_49 rfl ?_
    refine z_iaload dX1_takeStep_50 (zP_r hp 5 (by decide)) (zm_sh_p hp 5 (by decide)) (by omega) (by decide) ?_
    refine z_iconst dX1_takeStep_51 ?_
    refine z_iadd dX1_takeStep_52 ?_
    rw [hkR.2.1]
    refine z_istore dX1_takeStep_53 (by decide) ?_
    refine z_iload dX1_takeStep_55 rfl ?_
    refine z_iload dX1_takeStep_57 rfl ?_
    refine z_callSN mX4_cellAt (vX4_cellAt (by omega) (by omega)) rfl dX1_takeStep_59 kX1_98 (by decide) rfl (by show _ ≤ 8; simp) (fun v59 M59 q59 => ?_)
    obtain ⟨rfl, c59, rfl, h59⟩ := q59
    try simp only [zpush]
    have ht : c59 = sTo σ k step := by unfold sTo; omega
    subst ht
    have htX := hX.1 _ hr.1.1 hr.1.2
    have hcR := hR.1 _ hr.1.1 hr.1.2
    unfold zRc at hcR
    have hwr := sWhy_r σ k (sTo σ k step)
    refine z_istore dX1_takeStep_62 (by decide) ?_
    refine z_iload dX1_takeStep_64 rfl ?_
    refine z_iconst dX1_takeStep_66 ?_
    refine z_icmp_eq (tgt := 76) dX1_takeStep_67 (by decide) (by omega) (by omega) (fun c67 => ?_) (fun c67 => ?_)
    · exfalso; omega
    · refine z_iload dX1_takeStep_70 rfl ?_
      refine z_iconst dX1_takeStep_72 ?_
      refine z_icmp_ne (tgt := 77) dX1_takeStep_73 (by decide) (by omega) (by omega) (fun c73 => ?_) (fun c73 => ?_)
      · refine z_aload_n dX1_takeStep_77 rfl ?_
        refine z_iload_n dX1_takeStep_78 rfl ?_
        refine z_aload_n dX1_takeStep_79 rfl ?_
        refine z_iload_n dX1_takeStep_80 rfl ?_
        refine z_iload dX1_takeStep_81 rfl ?_
        refine z_callV mX1_whyNoHelp (vX1_whyNoHelp hp hR hk hr.1 hI) rfl dX1_takeStep_83 kX1_144 (by decide) rfl (by show _ ≤ 8; simp) (zP_r0 hp) (zm_sh_p0 hp) (by decide) rfl (fun v83 M83 q83 => ?_)
        obtain ⟨rfl, rfl⟩ := q83
        try simp only [zpush]
        refine z_if_ne (tgt := 99) dX1_takeStep_86 (by decide) (by omega) (fun c86 => ?_) (fun c86 => ?_)
        · refine z_bipush dX1_takeStep_99 (by decide) ?_
          refine z_callV mX1_noteLender (vX1_noteLender hp (by omega) (by omega) (by omega) (by omega)) rfl dX1_takeStep_101 kX1_150 (by decide) rfl (by show _ ≤ 8; simp) (zP_r0 hp) (zm_sh_p0 hp) (by decide) rfl (fun v101 M101 q101 => ?_)
          obtain ⟨rfl, hn⟩ := q101
          try simp only [zpush]
          have hnl : zNl M p k σ (sTo σ k step) M101 := by
            rcases hn with ⟨hz, rfl⟩ | ⟨hz, rfl⟩
            · exact zNl.no (by omega) (by omega)
            · first | (exfalso; omega) | exact zNl.yes (c := sTo σ k step) (by omega) (by omega) hkR0 (by omega) (by omega)
          have n6 : M101 (p + 6) k = σ (360 + 10 * k + 2) := by rw [hnl.1 (p + 6) (by omega) (by omega) (by omega) (by omega)]; exact hkR.2.2.1
          have n9 : M101 (p + 9) k = σ (360 + 10 * k + 5) := by rw [hnl.1 (p + 9) (by omega) (by omega) (by omega) (by omega)]; exact hkR.2.2.2.2.2.1
          refine z_aload_n dX1_takeStep_104 rfl ?_
          refine z_getR (b := (p + 6)) dX1_takeStep_105 fX1_27 (zP_r0 hp) (zm_sh_p0 hp) rfl rfl ?_
          refine z_iload_n dX1_takeStep_108 rfl ?_
          refine z_dup2 dX1_takeStep_109 ?_
          refine z_iaload dX1_takeStep_110 (zP_r hp 6 (by decide)) (zm_sh_p hp 6 (by decide)) (by omega) (by decide) ?_
          refine z_iload_n dX1_takeStep_111 rfl ?_
          refine z_isub dX1_takeStep_112 ?_
          refine z_niast dX1_takeStep_113 (zP_r hp 6 (by decide)) (zm_sh_p hp 6 (by decide)) (by omega) (by decide) (fun N113 hN113 => ?_)
          rw [n6] at hN113
          refine z_aload_n dX1_takeStep_114 rfl ?_
          refine z_getR (b := (p + 9)) dX1_takeStep_115 fX1_36 (zP_r0 hp) (zm_sh_p0 hp) rfl rfl ?_
          refine z_iload_n dX1_takeStep_118 rfl ?_
          refine z_dup2 dX1_takeStep_119 ?_
          refine z_iaload dX1_takeStep_120 (zP_r hp 9 (by decide)) (zm_sh_p hp 9 (by decide)) (by omega) (by decide) ?_
          refine z_iconst dX1_takeStep_121 ?_
          refine z_iadd dX1_takeStep_122 ?_
          refine z_niast dX1_takeStep_123 (zP_r hp 9 (by decide)) (zm_sh_p hp 9 (by decide)) (by omega) (by decide) (fun N123 hN123 => ?_)
          rw [show N113 (p + 9) k = σ (360 + 10 * k + 5) from by rw [hN113, zm_up_off (by omega)]; exact n9] at hN123
          refine z_aload_n dX1_takeStep_124 rfl ?_
          refine z_getR (b := (p + 2)) dX1_takeStep_125 fX1_15 (zP_r0 hp) (zm_sh_p0 hp) rfl rfl ?_
          refine z_iload dX1_takeStep_128 rfl ?_
          refine z_iload_n dX1_takeStep_130 rfl ?_
          refine z_niast dX1_takeStep_131 (zP_r hp 2 (by decide)) (zm_sh_p hp 2 (by decide)) (by omega) (by decide) (fun N131 hN131 => ?_)
          refine z_aload_n dX1_takeStep_132 rfl ?_
          refine z_getR (b := (p + 3)) dX1_takeStep_133 fX1_18 (zP_r0 hp) (zm_sh_p0 hp) rfl rfl ?_
          refine z_iload dX1_takeStep_136 rfl ?_
          refine z_iconst dX1_takeStep_138 ?_
          refine z_niast dX1_takeStep_139 (zP_r hp 3 (by decide)) (zm_sh_p hp 3 (by decide)) (by omega) (by decide) (fun N139 hN139 => ?_)
          refine z_aload_n dX1_takeStep_140 rfl ?_
          refine z_getR (b := (p + 4)) dX1_takeStep_141 fX1_21 (zP_r0 hp) (zm_sh_p0 hp) rfl rfl ?_
          refine z_iload_n dX1_takeStep_144 rfl ?_
          refine z_iload dX1_takeStep_145 rfl ?_
          refine z_niast dX1_takeStep_147 (zP_r hp 4 (by decide)) (zm_sh_p hp 4 (by decide)) (by omega) (by decide) (fun N147 hN147 => ?_)
          refine z_aload_n dX1_takeStep_148 rfl ?_
          refine z_getR (b := (p + 5)) dX1_takeStep_149 fX1_24 (zP_r0 hp) (zm_sh_p0 hp) rfl rfl ?_
          refine z_iload_n dX1_takeStep_152 rfl ?_
          refine z_iload dX1_takeStep_153 rfl ?_
          refine z_niast dX1_takeStep_155 (zP_r hp 5 (by decide)) (zm_sh_p hp 5 (by decide)) (by omega) (by decide) (fun N155 hN155 => ?_)
          subst hN113
          subst hN123
          subst hN131
          subst hN139
          subst hN147
          refine z_iload dX1_takeStep_156 rfl ?_
          refine z_bipush dX1_takeStep_158 (by decide) ?_
          refine z_icmp_ne (tgt := 183) dX1_takeStep_160 (by decide) (by omega) (by omega) (fun c160 => ?_) (fun c160 => ?_)
          · refine z_vret dX1_takeStep_183 rfl ?_
            first
              | (subst hN182; subst hN175; subst hN155; exact ⟨rfl, rel_take hR ho hX h537 hk hnl (Or.inr ⟨by omega, rfl⟩)⟩)
              | (subst hN155; exact ⟨rfl, rel_take hR ho hX h537 hk hnl (Or.inl ⟨by omega, rfl⟩)⟩)
          · have g15 : N155 p 15 = σ 535 := by rw [hN155, zm_up_off (by omega), zm_up_off (by omega), zm_up_off (by omega), zm_up_off (by omega), zm_up_off (by omega), zm_up_off (by omega), hnl.1 p (by omega) (by omega) (by omega) (by omega), hR5]
            have g7 : ∀ j : Int, N155 (p + 7) j = M (p + 7) j := fun j => by rw [hN155, zm_up_off (by omega), zm_up_off (by omega), zm_up_off (by omega), zm_up_off (by omega), zm_up_off (by omega), zm_up_off (by omega), hnl.1 (p + 7) (by omega) (by omega) (by omega) (by omega)]
            refine z_aload_n dX1_takeStep_163 rfl ?_
            refine z_getR (b := (p + 8)) dX1_takeStep_164 fX1_33 (zP_r0 hp) (zm_sh_p0 hp) rfl rfl ?_
            refine z_iload_n dX1_takeStep_167 rfl ?_
            refine z_aload_n dX1_takeStep_168 rfl ?_
            refine z_iconst dX1_takeStep_169 ?_
            refine z_callV mX1_howManyAre (vX1_howManyAreM hp (by omega) (by omega) (fun a q1 q2 => by have e := hI.2.2 a (by omega) (by omega); unfold zIk at e; have e2 := hR.2.1 a (by omega) (by omega); unfold zRk at e2; rw [g7]; omega)) rfl dX1_takeStep_170 kX1_115 (by decide) rfl (by show _ ≤ 8; simp) (zP_r0 hp) (zm_sh_p0 hp) (by decide) rfl (fun v170 M170 q170 => ?_)
            obtain ⟨rfl, rfl⟩ := q170
            try simp only [zpush]
            rw [rel_cnt hR hI g15 g7, ← hX.2.2.1]
            refine z_iconst dX1_takeStep_173 ?_
            refine z_iadd dX1_takeStep_174 ?_
            refine z_niast dX1_takeStep_175 (zP_r hp 8 (by decide)) (zm_sh_p hp 8 (by decide)) (by omega) (by decide) (fun N175 hN175 => ?_)
            refine z_aload_n dX1_takeStep_176 rfl ?_
            refine z_getR (b := (p + 7)) dX1_takeStep_177 fX1_30 (zP_r0 hp) (zm_sh_p0 hp) rfl rfl ?_
            refine z_iload_n dX1_takeStep_180 rfl ?_
            refine z_iconst dX1_takeStep_181 ?_
            refine z_niast dX1_takeStep_182 (zP_r hp 7 (by decide)) (zm_sh_p hp 7 (by decide)) (by omega) (by decide) (fun N182 hN182 => ?_)
            refine z_vret dX1_takeStep_183 rfl ?_
            first
              | (subst hN182; subst hN175; subst hN155; exact ⟨rfl, rel_take hR ho hX h537 hk hnl (Or.inr ⟨by omega, rfl⟩)⟩)
              | (subst hN155; exact ⟨rfl, rel_take hR ho hX h537 hk hnl (Or.inl ⟨by omega, rfl⟩)⟩)
        · refine z_aload_n dX1_takeStep_89 rfl ?_
          refine z_getR (b := (p + 2)) dX1_takeStep_90 fX1_15 (zP_r0 hp) (zm_sh_p0 hp) rfl rfl ?_
          refine z_iload dX1_takeStep_93 rfl ?_
          refine z_iaload dX1_takeStep_95 (zP_r hp 2 (by decide)) (zm_sh_p hp 2 (by decide)) (by omega) (by decide) ?_
          refine z_goto (tgt := 101) dX1_takeStep_96 (by decide) ?_
          refine z_callV mX1_noteLender (vX1_noteLender hp (by omega) (by omega) (by omega) (by omega)) rfl dX1_takeStep_101 kX1_150 (by decide) rfl (by show _ ≤ 8; simp) (zP_r0 hp) (zm_sh_p0 hp) (by decide) rfl (fun v101 M101 q101 => ?_)
          obtain ⟨rfl, hn⟩ := q101
          try simp only [zpush]
          have hnl : zNl M p k σ (sTo σ k step) M101 := by
            rcases hn with ⟨hz, rfl⟩ | ⟨hz, rfl⟩
            · exact zNl.no (by omega) (by omega)
            · first | (exfalso; omega) | exact zNl.yes (c := sTo σ k step) (by omega) (by omega) hkR0 (by omega) (by omega)
          have n6 : M101 (p + 6) k = σ (360 + 10 * k + 2) := by rw [hnl.1 (p + 6) (by omega) (by omega) (by omega) (by omega)]; exact hkR.2.2.1
          have n9 : M101 (p + 9) k = σ (360 + 10 * k + 5) := by rw [hnl.1 (p + 9) (by omega) (by omega) (by omega) (by omega)]; exact hkR.2.2.2.2.2.1
          refine z_aload_n dX1_takeStep_104 rfl ?_
          refine z_getR (b := (p + 6)) dX1_takeStep_105 fX1_27 (zP_r0 hp) (zm_sh_p0 hp) rfl rfl ?_
          refine z_iload_n dX1_takeStep_108 rfl ?_
          refine z_dup2 dX1_takeStep_109 ?_
          refine z_iaload dX1_takeStep_110 (zP_r hp 6 (by decide)) (zm_sh_p hp 6 (by decide)) (by omega) (by decide) ?_
          refine z_iload_n dX1_takeStep_111 rfl ?_
          refine z_isub dX1_takeStep_112 ?_
          refine z_niast dX1_takeStep_113 (zP_r hp 6 (by decide)) (zm_sh_p hp 6 (by decide)) (by omega) (by decide) (fun N113 hN113 => ?_)
          rw [n6] at hN113
          refine z_aload_n dX1_takeStep_114 rfl ?_
          refine z_getR (b := (p + 9)) dX1_takeStep_115 fX1_36 (zP_r0 hp) (zm_sh_p0 hp) rfl rfl ?_
          refine z_iload_n dX1_takeStep_118 rfl ?_
          refine z_dup2 dX1_takeStep_119 ?_
          refine z_iaload dX1_takeStep_120 (zP_r hp 9 (by decide)) (zm_sh_p hp 9 (by decide)) (by omega) (by decide) ?_
          refine z_iconst dX1_takeStep_121 ?_
          refine z_iadd dX1_takeStep_122 ?_
          refine z_niast dX1_takeStep_123 (zP_r hp 9 (by decide)) (zm_sh_p hp 9 (by decide)) (by omega) (by decide) (fun N123 hN123 => ?_)
          rw [show N113 (p + 9) k = σ (360 + 10 * k + 5) from by rw [hN113, zm_up_off (by omega)]; exact n9] at hN123
          refine z_aload_n dX1_takeStep_124 rfl ?_
          refine z_getR (b := (p + 2)) dX1_takeStep_125 fX1_15 (zP_r0 hp) (zm_sh_p0 hp) rfl rfl ?_
          refine z_iload dX1_takeStep_128 rfl ?_
          refine z_iload_n dX1_takeStep_130 rfl ?_
          refine z_niast dX1_takeStep_131 (zP_r hp 2 (by decide)) (zm_sh_p hp 2 (by decide)) (by omega) (by decide) (fun N131 hN131 => ?_)
          refine z_aload_n dX1_takeStep_132 rfl ?_
          refine z_getR (b := (p + 3)) dX1_takeStep_133 fX1_18 (zP_r0 hp) (zm_sh_p0 hp) rfl rfl ?_
          refine z_iload dX1_takeStep_136 rfl ?_
          refine z_iconst dX1_takeStep_138 ?_
          refine z_niast dX1_takeStep_139 (zP_r hp 3 (by decide)) (zm_sh_p hp 3 (by decide)) (by omega) (by decide) (fun N139 hN139 => ?_)
          refine z_aload_n dX1_takeStep_140 rfl ?_
          refine z_getR (b := (p + 4)) dX1_takeStep_141 fX1_21 (zP_r0 hp) (zm_sh_p0 hp) rfl rfl ?_
          refine z_iload_n dX1_takeStep_144 rfl ?_
          refine z_iload dX1_takeStep_145 rfl ?_
          refine z_niast dX1_takeStep_147 (zP_r hp 4 (by decide)) (zm_sh_p hp 4 (by decide)) (by omega) (by decide) (fun N147 hN147 => ?_)
          refine z_aload_n dX1_takeStep_148 rfl ?_
          refine z_getR (b := (p + 5)) dX1_takeStep_149 fX1_24 (zP_r0 hp) (zm_sh_p0 hp) rfl rfl ?_
          refine z_iload_n dX1_takeStep_152 rfl ?_
          refine z_iload dX1_takeStep_153 rfl ?_
          refine z_niast dX1_takeStep_155 (zP_r hp 5 (by decide)) (zm_sh_p hp 5 (by decide)) (by omega) (by decide) (fun N155 hN155 => ?_)
          subst hN113
          subst hN123
          subst hN131
          subst hN139
          subst hN147
          refine z_iload dX1_takeStep_156 rfl ?_
          refine z_bipush dX1_takeStep_158 (by decide) ?_
          refine z_icmp_ne (tgt := 183) dX1_takeStep_160 (by decide) (by omega) (by omega) (fun c160 => ?_) (fun c160 => ?_)
          · refine z_vret dX1_takeStep_183 rfl ?_
            first
              | (subst hN182; subst hN175; subst hN155; exact ⟨rfl, rel_take hR ho hX h537 hk hnl (Or.inr ⟨by omega, rfl⟩)⟩)
              | (subst hN155; exact ⟨rfl, rel_take hR ho hX h537 hk hnl (Or.inl ⟨by omega, rfl⟩)⟩)
          · have g15 : N155 p 15 = σ 535 := by rw [hN155, zm_up_off (by omega), zm_up_off (by omega), zm_up_off (by omega), zm_up_off (by omega), zm_up_off (by omega), zm_up_off (by omega), hnl.1 p (by omega) (by omega) (by omega) (by omega), hR5]
            have g7 : ∀ j : Int, N155 (p + 7) j = M (p + 7) j := fun j => by rw [hN155, zm_up_off (by omega), zm_up_off (by omega), zm_up_off (by omega), zm_up_off (by omega), zm_up_off (by omega), zm_up_off (by omega), hnl.1 (p + 7) (by omega) (by omega) (by omega) (by omega)]
            refine z_aload_n dX1_takeStep_163 rfl ?_
            refine z_getR (b := (p + 8)) dX1_takeStep_164 fX1_33 (zP_r0 hp) (zm_sh_p0 hp) rfl rfl ?_
            refine z_iload_n dX1_takeStep_167 rfl ?_
            refine z_aload_n dX1_takeStep_168 rfl ?_
            refine z_iconst dX1_takeStep_169 ?_
            refine z_callV mX1_howManyAre (vX1_howManyAreM hp (by omega) (by omega) (fun a q1 q2 => by have e := hI.2.2 a (by omega) (by omega); unfold zIk at e; have e2 := hR.2.1 a (by omega) (by omega); unfold zRk at e2; rw [g7]; omega)) rfl dX1_takeStep_170 kX1_115 (by decide) rfl (by show _ ≤ 8; simp) (zP_r0 hp) (zm_sh_p0 hp) (by decide) rfl (fun v170 M170 q170 => ?_)
            obtain ⟨rfl, rfl⟩ := q170
            try simp only [zpush]
            rw [rel_cnt hR hI g15 g7, ← hX.2.2.1]
            refine z_iconst dX1_takeStep_173 ?_
            refine z_iadd dX1_takeStep_174 ?_
            refine z_niast dX1_takeStep_175 (zP_r hp 8 (by decide)) (zm_sh_p hp 8 (by decide)) (by omega) (by decide) (fun N175 hN175 => ?_)
            refine z_aload_n dX1_takeStep_176 rfl ?_
            refine z_getR (b := (p + 7)) dX1_takeStep_177 fX1_30 (zP_r0 hp) (zm_sh_p0 hp) rfl rfl ?_
            refine z_iload_n dX1_takeStep_180 rfl ?_
            refine z_iconst dX1_takeStep_181 ?_
            refine z_niast dX1_takeStep_182 (zP_r hp 7 (by decide)) (zm_sh_p hp 7 (by decide)) (by omega) (by decide) (fun N182 hN182 => ?_)
            refine z_vret dX1_takeStep_183 rfl ?_
            first
              | (subst hN182; subst hN175; subst hN155; exact ⟨rfl, rel_take hR ho hX h537 hk hnl (Or.inr ⟨by omega, rfl⟩)⟩)
              | (subst hN155; exact ⟨rfl, rel_take hR ho hX h537 hk hnl (Or.inl ⟨by omega, rfl⟩)⟩)
      · exfalso; omega
  · exfalso; omega

