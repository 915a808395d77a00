section ZF
variable {T T' : zS} {n : Int}
theorem pN_cg (h : ∀ j : Int, j < n → T j = T' j) : pN T n = pN T' n := by
  funext i
  unfold pN
  by_cases q : i < n
  · rw [if_pos q, if_pos q]; exact h i q
  · rw [if_neg q, if_neg q]
theorem nV_cg (h : pN T n = pN T' n) (hi i : Int) : nV T n hi i = nV T' n hi i := by unfold nV; rw [h]
theorem nE_cg (h : pN T n = pN T' n) (hi i : Int) : nE T n hi i = nE T' n hi i := by unfold nE; rw [h]
theorem pM_cg (h : pN T n = pN T' n) (lo hi : Int) (x : Int × Int) : pM T n lo hi x = pM T' n lo hi x := by unfold pM; rw [h, nE_cg h]
theorem pS_cg (h : pN T n = pN T' n) (c : Int) (x : Int × Int) : pS T n c x = pS T' n c x := by unfold pS; rw [h]
theorem pA_cg (h : pN T n = pN T' n) (i : Int) : pA T n i = pA T' n i := pM_cg h _ _ _
theorem pB1_cg (h : pN T n = pN T' n) (i : Int) : pB1 T n i = pB1 T' n i := by unfold pB1; rw [pA_cg h, pS_cg h]
theorem pB2_cg (h : pN T n = pN T' n) (i : Int) : pB2 T n i = pB2 T' n i := by unfold pB2; rw [pA_cg h, pS_cg h]
theorem pC_cg (h : pN T n = pN T' n) (i : Int) : pC T n i = pC T' n i := by unfold pC; rw [pB2_cg h, pM_cg h, pS_cg h]
theorem pT_cg (h : pN T n = pN T' n) (i : Int) : pT T n i = pT T' n i := by unfold pT; rw [h, pM_cg h, pM_cg h, pM_cg h, pB1_cg h, pC_cg h]
theorem p1_cg (h : pN T n = pN T' n) (i : Int) : p1 T n i = p1 T' n i := by unfold p1; rw [h, nV_cg h, nV_cg h]
theorem p2_cg (h : pN T n = pN T' n) (i : Int) : p2 T n i = p2 T' n i := by unfold p2; rw [h, pB1_cg h, pB2_cg h, nV_cg h, nV_cg h]
theorem p3_cg (h : pN T n = pN T' n) (i : Int) : p3 T n i = p3 T' n i := by unfold p3; rw [pC_cg h, nV_cg h]
theorem pRn_cg (h : pN T n = pN T' n) : ∀ (f : Nat) (i k : Int), pRn T n f i k = pRn T' n f i k
  | 0, _, _ => rfl
  | f + 1, i, k => by
    unfold pRn
    rw [pT_cg h, pS_cg h, pRn_cg h f]
theorem pR_cg (h : pN T n = pN T' n) (i k : Int) : pR T n i k = pR T' n i k := pRn_cg h _ _ _
theorem pD_cg (h : pN T n = pN T' n) : ∀ (m : Nat) (i d : Int) (σ : zS), pD T n m i d σ = pD T' n m i d σ
  | 0, _, _, _ => rfl
  | m + 1, i, d, σ => by
    rw [pD_s, pD_s, h, p1_cg h, p2_cg h, p3_cg h, pT_cg h, pD_cg h m, pD_cg h m]
end ZF
theorem pD_k (T : zS) (n : Int) : ∀ (m : Nat) (i d : Int) (σ : zS), zB σ → zX σ → zB (pD T n m i d σ).2 ∧ zX (pD T n m i d σ).2
  | 0, _, _, _, h1, h2 => ⟨h1, h2⟩
  | m + 1, i, d, σ, h1, h2 => by
    rw [pD_s]
    split
    · rename_i e
      exact pD_k T n m _ _ _ (zB_eff h1 e).1 (zX_eff h1 h2 e)
    · split
      · exact pD_k T n m _ _ _ h1 h2
      · exact ⟨h1, h2⟩
theorem b_perform {G : zG} {M : zM} (h : zC M) : zPair G yX4_perform YX4_perform yX5_perform YX5_perform [] M := by
  have hp := h.p
  obtain ⟨h1, h2, h3, h4, h5⟩ := id h
  have hx := h4.2.1
  unfold zTx at hx
  have hT : zTc (M 179) (M 187 7) := ⟨hx.1, fun j q1 q2 => by rw [h4.2.2 j q2]; exact hx.2 j q1 q2⟩
  have hN : pN (M 179) (M 187 7) = pN (M 192) (M 187 7) := pN_cg h4.2.2
  have hc := vX4_perform (G := G) hp.2.2.1 hp.1 hp.2.1 hp.2.2.2.1 hp.2.2.2.2.1 (T := M 179) (l := M 187 7) rfl h4.1 hT
  refine ⟨_, hc, fun v M1 q => ?_⟩
  unfold zPf at q
  rw [pR_cg hN, pD_cg hN] at q
  have f : (∀ a : Int, 187 ≤ a → M1 a = M a) := fun a ha => by
    rcases q with ⟨_, _, k⟩ | ⟨_, _, _, _, k, _⟩ | ⟨_, _, _, k⟩
    · exact k.1 a (by omega)
    · exact k a (by omega)
    · exact k.2.2.1 a (by omega) (by omega) (by have := hp.2.2.2.2.1; omega)
  have f7 := f 187 (by omega)
  have hm := vX5_perform (G := G) (M := M1) (σ := M1 188) (by rw [f 188 (by omega)]; exact hp.1) (by unfold zTx; rw [f7, f 192 (by omega)]; exact hx) (by rw [f7]; exact hp.2.2.2.2.2)
  rw [zt_self, f7, f 188 (by omega), f 192 (by omega)] at hm
  rcases q with ⟨a1, rfl, k⟩ | ⟨a1, a2, rfl, k0, k1, k2, k3, k4, k5⟩ | ⟨a1, a2, rfl, hd⟩
  · refine ⟨_, rfl, _, hm, fun w M2 p => ?_⟩
    rcases p with ⟨_, rfl, N, rfl, n1⟩ | ⟨b1, _⟩ | ⟨b1, _⟩
    · refine ⟨rfl, ?_⟩
      have z := (h.fr (zFr.kp k)).fr (zFr.pk n1)
      rw [f 188 (by omega)] at z
      exact z
    · exact absurd b1 a1
    · exact absurd b1 a1
  · refine ⟨_, rfl, _, hm, fun w M2 p => ?_⟩
    rcases p with ⟨b1, _⟩ | ⟨_, _, rfl, N, rfl, n1, n2, n3, n4, n5⟩ | ⟨_, b1, _⟩
    · exact absurd a1 b1
    · have e : ∀ a : Int, ((50 ≤ a ∧ a < 175) ∨ a = 176 ∨ a = 179 ∨ 190 ≤ a) → zt N (M 188) a = M a := fun a ha => by
        rw [zt_o _ _ (by omega), n1 a (by omega) (by omega)]
        exact k1 a (by omega)
      have e7 : ∀ j : Int, j < 8 → zt N (M 188) 187 j = M 187 j := fun j q => by rw [zt_o _ _ (by decide), n2 j (Or.inl q)]
      have e5 : zt N (M 188) 175 = M1 175 := by rw [zt_o _ _ (by decide)]; exact n1 175 (by decide) (by decide)
      refine ⟨rfl, ?_, h2.fr (fun a ha => e a (by omega)) (e7 3 (by decide)), h3.fr (fun a ha => e a (by omega)) (e7 5 (by decide)) (by rw [e5]; exact k3 3 (by decide) (by decide)), h4.fr (e 179 (by omega)) (e 192 (by omega)) (by rw [zt_o _ _ (by decide), n1 178 (by decide) (by decide)]; exact k2) (e7 7 (by decide)), Or.inr ⟨by rw [zt_o _ _ (by decide)]; exact n3, ?_, ?_⟩⟩
      · rw [zt_s]
        exact ⟨k0.mv (fun a p1 p2 => by rw [zt_o _ _ (by omega), n1 a (by omega) (by omega)]), h1.2⟩
      · rw [e5, k4, zt_o _ _ (by decide), n4]
      · rw [e5, k5, zt_o _ _ (by decide), n5]
    · exact absurd b1 a2
  · refine ⟨_, rfl, _, hm, fun w M2 p => ?_⟩
    rcases p with ⟨b1, _⟩ | ⟨_, b1, _⟩ | ⟨_, _, rfl, N0, N1, rfl, n1, n2, n3⟩
    · exact absurd a1 b1
    · exact absurd a2 b1
    · have hk := pD_k (M 192) (M 187 7) (pR (M 192) (M 187 7) 0 0).2.toNat 0 0 (M 188) hp.1 hp.2.1
      exact ⟨rfl, h.did hd (fun a p1 p2 p3 => n1 a p1 p3) (fun j q => by rw [n2 j (Or.inl q), f7]) n3 hk.1 hk.2⟩
