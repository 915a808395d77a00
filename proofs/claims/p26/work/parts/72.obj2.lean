/-! ===== an object's history, snapshot, text ===== -/
/-- the text -/
def wTx (M : zM) (T : zS) (l : Int) : Prop := M 178 1 = l ∧ ∀ j : Int, j < l → M 179 j = T j
def aUndo (A : wAb) : Int × wAb := if A.2.1.1 = 0 then (-5, A) else (A.2.1.1 - 1, (A.2.1.2 (A.2.1.1 - 1), (A.2.1.1 - 1, A.2.1.2), A.2.2))
def aKeep (A : wAb) : Int × wAb := (A.1 536, (A.1, A.2.1, (1, A.1), A.2.2.2))
def aRest (A : wAb) : Int × wAb := if A.2.2.1.1 = 0 then (-5, A) else (A.2.2.1.2 536, aRec A A.2.2.1.2)
def aPerf (A : wAb) (T : zS) (l : Int) : Int × wAb :=
  if ¬ (pR T l 0 0).1.1 = 0 then (-100 - (pR T l 0 0).1.2, A)
  else if ¬ (pD T l (pR T l 0 0).2.toNat 0 0 A.1).1.1 = 0 then (-4, (A.1, A.2.1, A.2.2.1, ((pD T l (pR T l 0 0).2.toNat 0 0 A.1).1.2, (pD T l (pR T l 0 0).2.toNat 0 0 A.1).1.1)))
  else ((pR T l 0 0).2, aRec A (pD T l (pR T l 0 0).2.toNat 0 0 A.1).2)
section ZT
variable {G : zG} {b : Int} {M : zM} {A : wAb}
theorem a_undo (h : zO b M A) : zCall G yX4_undo YX4_undo [.inr (some 175)] M (fun v M' => v = some (.inl (aUndo A).1) ∧ zO b M' (aUndo A).2) := by
  obtain ⟨h1, h2, h3, h4, h5, h6⟩ := id h
  obtain ⟨g1, g2, g3, g4⟩ := id h2
  have hT : M 176 1 ≠ 0 → zSn b M (75 + 25 * ((M 176 2 + 3) % 4)) (A.2.1.2 (A.2.1.1 - 1)) := fun q => by
    have := g4 (A.2.1.1 - 1) (by omega) (by omega)
    rw [show M 176 2 + 4 - A.2.1.1 + (A.2.1.1 - 1) = M 176 2 + 3 by omega] at this
    exact this
  refine (vX4_undo (τ := A.2.1.2 (A.2.1.1 - 1)) (fun q => ⟨(hT q).1, (hT q).2.1.1.1⟩) (by omega) g1).mono (fun v M' q => ?_)
  unfold aUndo
  rcases q with ⟨a1, rfl, rfl⟩ | ⟨a1, rfl, q1, q2, q3, q4⟩
  · rw [if_pos (g2 ▸ a1)]
    exact ⟨rfl, h⟩
  · rw [if_neg (g2 ▸ a1)]
    refine ⟨by rw [g2], ⟨q1, (hT a1).2⟩, ⟨by rw [q4]; omega, by rw [q3, g2], by show 0 ≤ A.2.1.1 - 1 ∧ A.2.1.1 - 1 ≤ 4; omega, fun i p1 p2 => ?_⟩, h3.fr (fun a ha => q2 a (by omega) (by omega)) (by rw [q2 175 (by decide) (by decide)]), h4.fr (q2 179 (by decide) (by decide)) (by rw [q2 178 (by decide) (by decide)]), by rw [q2 175 (by decide) (by decide)]; exact h5, by rw [q2 175 (by decide) (by decide)]; exact h6⟩
    dsimp only at p2 ⊢
    rw [q4]
    have hz := g4 i p1 (by omega)
    rw [show (M 176 2 + 4 - A.2.1.1 + i) % 4 = ((M 176 2 + 3) % 4 + 4 - (A.2.1.1 - 1) + i) % 4 by omega] at hz
    exact hz.mv (fun a p3 p4 => q2 a (by omega) (by omega))
theorem a_keep (h : zO b M A) : zCall G yX4_keep YX4_keep [.inr (some 175)] M (fun v M' => v = some (.inl (aKeep A).1) ∧ zO b M' (aKeep A).2) := by
  obtain ⟨h1, h2, h3, h4, h5, h6⟩ := id h
  refine (vX4_keep h1.1 h1.2.1.1.1).mono (fun v M' q => ?_)
  obtain ⟨rfl, q1, q2, q3, q4⟩ := q
  exact ⟨rfl, h1.mv (fun a p1 p2 => q2 a (by omega) (by omega)), h2.fr (fun a ha => q2 a (by omega) (by omega)), ⟨q3, Or.inr rfl, fun _ => ⟨q1, h1.2⟩⟩, h4.fr (q2 179 (by omega) (by decide)) (by rw [q2 178 (by omega) (by decide)]), (q4 7 (by decide)).trans h5, (q4 8 (by decide)).trans h6⟩
theorem a_restore (h : zO b M A) : zCall G yX4_restore YX4_restore [.inr (some 175)] M (fun v M' => v = some (.inl (aRest A).1) ∧ zO b M' (aRest A).2) := by
  obtain ⟨hB, hX, hH, hR, k1, k2⟩ := h.p
  obtain ⟨h1, h2, h3, h4, h5, h6⟩ := id h
  have hS : M 175 3 ≠ 0 → zSn b M 50 A.2.2.1.2 := fun q => h3.2.2 (by have := h3.1; have := h3.2.1; omega)
  refine (vX4_restore (τ := A.2.2.1.2) (by rw [h3.1]; exact h3.2.1) hR hB.1.1 (fun q => ⟨(hS q).1, (hS q).2.1.1.1, (hS q).2.1.2.2⟩) k1 k2).mono (fun v M' q => ?_)
  unfold aRest
  rcases q with ⟨a1, rfl, rfl⟩ | ⟨a1, rfl, hd⟩
  · rw [if_pos (h3.1 ▸ a1)]
    exact ⟨rfl, h⟩
  · rw [if_neg (h3.1 ▸ a1)]
    exact ⟨rfl, h.did hd (hS a1).2⟩
theorem a_clearText (h : zO b M A) : zCall G yX4_clearText YX4_clearText [.inr (some 175)] M (fun v M' => ∃ x : Int, (0 ≤ x ∧ x ≤ 60) ∧ v = some (.inl x) ∧ zO b M' A ∧ wTx M' (fun _ => 0) 0) := by
  refine vX4_clearText.mono (fun v M' q => ?_)
  obtain ⟨rfl, rfl⟩ := q
  obtain ⟨t1, t2, t3⟩ := h.2.2.2.1
  have e9 : zm_up M 178 1 0 179 = M 179 := zm_up_off (by decide)
  refine ⟨M 178 1, t1, rfl, h.fr (fun a ha => zm_up_off (by omega)) ⟨by rw [zm_up_at]; decide, fun j p1 p2 => ?_, fun j p1 => ?_⟩, zm_up_at, fun j p1 => ?_⟩
  · rw [zm_up_at] at p2; omega
  · rw [e9]; exact t3 j p1
  · rw [e9]; exact t3 j p1
theorem a_type {ch : Int} {T : zS} {l : Int} (hc : 0 ≤ ch ∧ ch < 65536) (hl : l < 60) (ht : wTx M T l) (h : zO b M A) : zCall G yX4_type YX4_type [.inr (some 175), .inl ch] M (fun v M' => v = some (.inl (l + 1)) ∧ zO b M' A ∧ wTx M' (zu T l ch) (l + 1)) := by
  obtain ⟨t1, t2, t3⟩ := h.2.2.2.1
  refine (vX4_type hc t1).mono (fun v M' q => ?_)
  have e1 := ht.1
  rcases q with ⟨a1, _, _⟩ | ⟨a1, rfl, rfl⟩
  · omega
  · have e9 : ∀ j : Int, zm_up (zm_up M 179 (M 178 1) ch) 178 1 (M 178 1 + 1) 179 j = if j = l then ch else M 179 j := fun j => by rw [zm_up_off (by decide), zm_up_j, e1]
    have e8 : zm_up (zm_up M 179 (M 178 1) ch) 178 1 (M 178 1 + 1) 178 1 = l + 1 := by rw [zm_up_at, e1]
    refine ⟨by rw [e1], h.fr (fun a ha => by rw [zm_up_off (by omega), zm_up_off (by omega)]) ⟨by rw [e8]; omega, fun j p1 p2 => ?_, fun j p1 => ?_⟩, e8, fun j p1 => ?_⟩
    · rw [e8] at p2
      rw [e9]
      split
      · exact hc
      · exact t2 j p1 (by omega)
    · rw [e9, if_neg (by omega)]
      exact t3 j p1
    · rw [e9]
      unfold zu
      split
      · rfl
      · exact ht.2 j (by omega)
end ZT
section ZF
variable {T T' : zS} {n : Int}
theorem pN_cg (h : ∀ j : Int, j < n → T j = T' j) : pN T n = pN T' n := by
  funext i
  unfold pN
  by_cases q : i < n
  · rw [if_pos q, if_pos q]; exact h i q
  · rw [if_neg q, if_neg q]
theorem nV_cg (h : pN T n = pN T' n) (hi i : Int) : nV T n hi i = nV T' n hi i := by unfold nV; rw [h]
theorem nE_cg (h : pN T n = pN T' n) (hi i : Int) : nE T n hi i = nE T' n hi i := by unfold nE; rw [h]
theorem pM_cg (h : pN T n = pN T' n) (lo hi : Int) (x : Int × Int) : pM T n lo hi x = pM T' n lo hi x := by unfold pM; rw [h, nE_cg h]
theorem pS_cg (h : pN T n = pN T' n) (c : Int) (x : Int × Int) : pS T n c x = pS T' n c x := by unfold pS; rw [h]
theorem pA_cg (h : pN T n = pN T' n) (i : Int) : pA T n i = pA T' n i := pM_cg h _ _ _
theorem pB1_cg (h : pN T n = pN T' n) (i : Int) : pB1 T n i = pB1 T' n i := by unfold pB1; rw [pA_cg h, pS_cg h]
theorem pB2_cg (h : pN T n = pN T' n) (i : Int) : pB2 T n i = pB2 T' n i := by unfold pB2; rw [pA_cg h, pS_cg h]
theorem pC_cg (h : pN T n = pN T' n) (i : Int) : pC T n i = pC T' n i := by unfold pC; rw [pB2_cg h, pM_cg h, pS_cg h]
theorem pT_cg (h : pN T n = pN T' n) (i : Int) : pT T n i = pT T' n i := by unfold pT; rw [h, pM_cg h, pM_cg h, pM_cg h, pB1_cg h, pC_cg h]
theorem p1_cg (h : pN T n = pN T' n) (i : Int) : p1 T n i = p1 T' n i := by unfold p1; rw [h, nV_cg h, nV_cg h]
theorem p2_cg (h : pN T n = pN T' n) (i : Int) : p2 T n i = p2 T' n i := by unfold p2; rw [h, pB1_cg h, pB2_cg h, nV_cg h, nV_cg h]
theorem p3_cg (h : pN T n = pN T' n) (i : Int) : p3 T n i = p3 T' n i := by unfold p3; rw [pC_cg h, nV_cg h]
theorem pRn_cg (h : pN T n = pN T' n) : ∀ (f : Nat) (i k : Int), pRn T n f i k = pRn T' n f i k
  | 0, _, _ => rfl
  | f + 1, i, k => by
    unfold pRn
    rw [pT_cg h, pS_cg h, pRn_cg h f]
theorem pR_cg (h : pN T n = pN T' n) (i k : Int) : pR T n i k = pR T' n i k := pRn_cg h _ _ _
theorem pD_cg (h : pN T n = pN T' n) : ∀ (m : Nat) (i d : Int) (σ : zS), pD T n m i d σ = pD T' n m i d σ
  | 0, _, _, _ => rfl
  | m + 1, i, d, σ => by
    rw [pD_s, pD_s, h, p1_cg h, p2_cg h, p3_cg h, pT_cg h, pD_cg h m, pD_cg h m]
end ZF
theorem pRn_3 (T : zS) (n : Int) : ∀ (f : Nat) (i k : Int), 0 ≤ i → i ≤ n → (pRn T n f i k).2 ≤ k + (n - i) / 3 + 1
  | 0, i, k, h1, h2 => by
    unfold pRn
    dsimp only
    omega
  | f + 1, i, k, h1, h2 => by
    have ht := pT_r (T := T) h2
    have hs := pS_r (T := T) (n := n) (c := 59) (x := pT T n i) (by omega) (by omega)
    unfold pRn
    split
    · rename_i hc
      split
      · rename_i hc2
        have ih := pRn_3 T n f (pS T n 59 (pT T n i)).2 (k + 1) (by omega) (by omega)
        have h5 := ht.2.2.2 hc.1
        have h6 := (hs.2.2.2.1 hc2).2
        omega
      · dsimp only; omega
    · dsimp only; omega
theorem zHK_eff {b : Int} {σ : zS} (h : zHK b σ) {kd x y z : Int} (hx : 0 ≤ x ∧ x ≤ 99) (hb : sBarK σ kd x y z = 0) : zHK (b + 99) (sEff σ kd x y z) := by
  obtain ⟨hB, hX, hH, ht⟩ := h
  have hm := zI_m hB.1.1
  refine ⟨(zB_eff hB hb).1, zX_eff hB hX hb, ?_, ?_⟩
  · unfold sBarK at hb
    unfold sEff
    split at hb
    · rename_i hk
      rw [if_pos hk]
      exact zH_come hB.1.1 hX hH hB.2.1 (sBarS_0 hb).2.2.1
    · rename_i hk
      rw [if_neg hk]
      split at hb
      · rename_i hk2
        rw [if_pos hk2]
        have := sBarF_0 hb
        exact zH_fz hB.1.1 hH (by omega)
      · rename_i hk2
        rw [if_neg hk2]
        exact zH_ts hB.1 hX hH hx.1
  · unfold sEff
    split
    · rw [sCo_off (by have := hB.2.1; omega) (by have := hB.2.1; omega)]; omega
    · split
      · rename_i q1 q2
        unfold sBarK at hb
        rw [if_neg q1, if_pos q2] at hb
        have := sBarF_0 hb
        rw [sFz_o (by omega)]; omega
      · rw [(zA_ts hB.1 (t := x) hx.1).2.1]; omega
theorem p1_r (T : zS) (n i : Int) (h : (pT T n i).1 = 0) : 0 ≤ p1 T n i ∧ p1 T n i ≤ 99 := (p_r h).1
theorem pD_k {b : Int} (T : zS) (n : Int) : ∀ (m : Nat) (i d : Int) (σ : zS), (m = 0 ∨ pG T n m i) → zHK b σ → zHK (b + 99 * (m : Int)) (pD T n m i d σ).2
  | 0, _, _, _, _, h => h.le (by omega)
  | m + 1, i, d, σ, hg, h => by
    rw [pD_s]
    rcases hg with hg | hg
    · omega
    obtain ⟨g1, g2, g3⟩ := hg
    split
    · rename_i e
      have h1 := zHK_eff h (p1_r T n i g2) e
      have := pD_k (b := b + 99) T n m ((pT T n i).2 + 1) (d + 1) _ g3 h1
      exact this.le (by omega)
    · split
      · exact (pD_k T n m _ _ _ g3 h).le (by omega)
      · exact h.le (by omega)
theorem zO.stop {b : Int} {M N : zM} {A : wAb} {x y : Int} (h : zO b M A) (k0 : zRel N 0 A.1) (k1 : ∀ a : Int, ((50 ≤ a ∧ a < 175) ∨ a = 176 ∨ a = 177 ∨ a = 179 ∨ a = 184 ∨ 187 ≤ a) → N a = M a) (k2 : N 178 1 = M 178 1) (k3 : ∀ j : Int, j ≠ 7 → j ≠ 8 → N 175 j = M 175 j) (k4 : N 175 7 = x) (k5 : N 175 8 = y) : zO b N (A.1, A.2.1, A.2.2.1, (x, y)) := by
  obtain ⟨h1, h2, h3, h4, h5, h6⟩ := h
  exact ⟨⟨k0, h1.2⟩, h2.fr (fun a q => k1 a (by omega)), h3.fr (fun a q => k1 a (by omega)) (k3 3 (by decide) (by decide)), h4.fr (k1 179 (by omega)) k2, k4, k5⟩
theorem a_perform {G : zG} {b : Int} {M : zM} {A : wAb} {T : zS} {l : Int} (hl : 0 ≤ l ∧ l ≤ 28) (ht : wTx M T l) (h : zO b M A) : zCall G yX4_perform YX4_perform [.inr (some 175)] M (fun v M' => v = some (.inl (aPerf A T l).1) ∧ zO (b + 990) M' (aPerf A T l).2) := by
  obtain ⟨hB, hX, hH, hR, h1, h2⟩ := h.p
  obtain ⟨t1, t2, t3⟩ := h.2.2.2.1
  have e1 := ht.1
  have hTc : zTc (M 179) l := ⟨by omega, fun j p1 p2 => t2 j p1 (by omega)⟩
  have hN : pN (M 179) l = pN T l := pN_cg ht.2
  refine (vX4_perform hR hB hX h1 h2 rfl e1 hTc).mono (fun v M' q => ?_)
  unfold zPf at q
  rw [pR_cg hN, pD_cg hN] at q
  have hle : b ≤ b + 990 := by omega
  unfold aPerf
  rcases q with ⟨a1, rfl, k⟩ | ⟨a1, a2, rfl, k0, k1, k2, k3, k4, k5⟩ | ⟨a1, a2, rfl, hd⟩
  · rw [if_pos a1]
    exact ⟨rfl, (h.kp k).le hle⟩
  · rw [if_neg (fun z => z a1), if_pos a2]
    exact ⟨rfl, (h.stop k0 k1 k2 k3 k4 k5).le hle⟩
  · rw [if_neg (fun z => z a1), if_neg (fun z => z a2)]
    refine ⟨rfl, (h.le hle).did hd ?_⟩
    have g := pG_of T l (l + 1).toNat 0 0 (by omega) hl.1 (by omega) a1
    have g3 := pRn_3 T l (l - 0 + 1).toNat 0 0 (by omega) hl.1
    have g4 : (pR T l 0 0).2 ≤ 0 + (l - 0) / 3 + 1 := g3
    have g5 := g.2.2
    rw [Int.sub_zero] at g5
    exact (pD_k T l (pR T l 0 0).2.toNat 0 0 A.1 (Or.inr g5) h.1.2).le (by omega)
