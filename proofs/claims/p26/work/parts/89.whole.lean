/-! ===== from the entry ===== -/
theorem nAd_far (α ρ : Nat → Nat → Nat) (h hq s : Nat) (b c : Nat → Nat) (g0 : Int → Nat) {k : Int} (hk : 187 ≤ k) : nAd α ρ h hq s b c g0 k = g0 k := by
  unfold nAd
  rw [if_neg (by omega), if_neg (by omega)]
set_option maxRecDepth 100000 in
set_option maxHeartbeats 4000000 in
theorem whole_start {p : Program} {e : Env} {s : State} {m : MethodId} {below : List Frame} {meth : Method} {c : Code} (l : Launch) (hflags : l.flags = flags0) {b L : Nat} {xs : Nat → Int32} (hL : L ≤ 260) (C0 : lw_At p s m meth c b L xs) : W p l e room_1 s m #[Value.ref b] below meth c s.heap [] 0 0 (lw_Z below #[Value.ref b] s) (entryFrame m ([Value.ref b] : List Value).toArray 7) := by
  obtain ⟨hx, hb, hr, hml, hown, hts, hX, hbl, hlk, hgv⟩ := id C0
  obtain ⟨g0, hst, hZ, hnA, cell, f1, f2, f3, f4, f5⟩ := s_st hts hgv
  obtain ⟨G, rfl, e0, hK, hWo⟩ := s_cls hts l g0
  have hN := s_zN hts
  have hcI : s.vm.findClass "[I" = some (G.2.2.1 0) := (hK.2 0 (G.2.2.1 0, .int) rfl).2
  have hcc : cell.cls = G.2.2.1 0 := Option.some.inj (f4.symm.trans hcI)
  have hF : nF G (lA s) s s.heap := by
    unfold nF
    rw [e0]
    exact ⟨hZ, hnA, cell, f1, f2, f3, hcc, by rw [← hcc]; exact f5⟩
  have htz : ∀ w ∈ zT, w.before #[Value.ref b] s = true := fun w hw => hts w (List.mem_filter.mp hw).1
  have hA : ∀ q : Nat, s.heap.size ≤ q → lA s q := fun _ h => h
  have hS : va_S (lA s) s.heap s.heap [] := va_S.rf
  have hP : va_P G.2.2.2 zm_cls [] s.heap := fun k q h => by simp at h
  have hD : va_D (lA s) [] := ⟨fun i j p q h => by simp at h, fun k q h => by simp at h⟩
  -- what a constructor wants, over any heap of ours
  have hpre : ∀ (ws : va_W) (H : Heap) (locs : List Loc) (k a : Nat), va_P G.2.2.2 zm_cls ws H → va_D (lA s) ws → va_S (lA s) s.heap H locs → PreS s H (va_Pc [.ref a] (nPre G ws H.size)) (.ref a :: []) := by
    intro ws H locs k a hP hD hS
    have hAA : ∀ q, va_A ws H.size q → lA s q := by
      intro q hq
      rcases hq with ⟨k, e, hk⟩ | hq
      · exact hD.2 k _ hk
      · exact Nat.le_trans hS.1 hq
    refine ⟨nPre_blind, fun U hU hW => ⟨rfl, ?_⟩⟩
    subst hU
    exact ⟨rfl, hP, hD.weaken (fun _ _ _ _ => trivial), va_K.moved hW.alike hK, ((hF.kept (fun a h1 h2 => hS.2.1 a h1 h2)).moved hW.alike).narrow hAA, hN.warm hW, hWo.warm hW⟩
  have hAA : ∀ (ws : va_W) (H : Heap) (locs : List Loc), va_D (lA s) ws → va_S (lA s) s.heap H locs → ∀ q, va_A ws H.size q → lA s q := by
    intro ws H locs hD hS q hq
    rcases hq with ⟨k, e, hk⟩ | hq
    · exact hD.2 k _ hk
    · exact Nat.le_trans hS.1 hq
  have hl := lv_entry ([.ref b]) (n := 7) (Nat.le_of_ble_eq_true rfl)
  rw [lg_entry_eq]
  generalize (lg_sl ([.ref b]) ++ List.replicate (7 - (lg_sl ([.ref b])).length) Slot.unset).toArray = ls at hl ⊢
  have hl : lv_has ls 7 [(0, .ref b)] := hl
  -- the first object
  refine va_new (ci := 4) (fs := [.null, .null, .null, .int 0, .null, .null, .null, .int 0, .int 0]) hx hb htz (zm_inT zm_in4) tyX4 tyX4_ok hown (htz _ lCl_10) (htz _ nIns_4) (htz _ nIni_4) hK hP hD hS hA rfl (show ∀ j, j < 9 → defaultValue (tyX4 j) = vp_V _ j by decide) (Nat.le_of_ble_eq_true rfl) (Nat.le_of_ble_eq_true rfl) dL_law_0 (fun q1 H1 hP1 hD1 hS1 => ?_)
  refine lv_dup hx hb dL_law_3 rfl ?_
  refine nAfter (G := G) (va_runI (As := []) (rest := [.ref q1]) (nL := 7) ⟨hx, hb, hml, hown, htz⟩ (kX4_init (G := G) (h := q1) H1.size) (cwI 0 htz (zGood yX4_init YX4_init mX4_init.1.2.1) rfl rfl rfl (htz _ mX4_init.1.1) (htz _ lL_85) (htz _ mX4_init.2.2.2) rfl mX4_init.1.2.2.1 ⟨Nat.le_of_ble_eq_true rfl, Nat.le_of_ble_eq_true rfl⟩) (hpre _ H1 _ 0 q1 hP1 hD1 hS1) rfl rfl hl.1 rfl (lv_room (Nat.le_of_ble_eq_true rfl)) dL_law_4 ⟨Nat.le_of_ble_eq_true rfl, Nat.le_of_ble_eq_true rfl⟩) hS1 (hAA _ H1 _ hD1 hS1) (fun w1 H2 locs2 hw1 hP2 hD2 hk2 hS2 => ?_)
  obtain ⟨α, ρ, hq, s1, b1, c1, rfl⟩ := hw1
  have hD2 := hD2.weaken (fun k q _ h => hAA _ H1 _ hD1 hS1 q.1 h)
  refine lv_astore_n (lv' := [(1, .ref q1), (0, .ref b)]) hx hb dL_law_7 rfl hl (by decide) rfl (fun ls hl => ?_)
  -- the second one
  refine va_new (ci := 4) (fs := [.null, .null, .null, .int 0, .null, .null, .null, .int 0, .int 0]) hx hb htz (zm_inT zm_in4) tyX4 tyX4_ok hown (htz _ lCl_10) (htz _ nIns_4) (htz _ nIni_4) hK hP2 hD2 hS2 hA rfl (show ∀ j, j < 9 → defaultValue (tyX4 j) = vp_V _ j by decide) (Nat.le_of_ble_eq_true rfl) (Nat.le_of_ble_eq_true rfl) dL_law_8 (fun q2 H3 hP3 hD3 hS3 => ?_)
  refine lv_dup hx hb dL_law_11 rfl ?_
  have hD3c := n_D_r hD3
  refine nAfter (G := G) (va_runI (As := []) (rest := [.ref q2]) (nL := 7) ⟨hx, hb, hml, hown, htz⟩ (kX4_init (G := G) (h := q2) H3.size) (cwI 0 htz (zGood yX4_init YX4_init mX4_init.1.2.1) rfl rfl rfl (htz _ mX4_init.1.1) (htz _ lL_85) (htz _ mX4_init.2.2.2) rfl mX4_init.1.2.2.1 ⟨Nat.le_of_ble_eq_true rfl, Nat.le_of_ble_eq_true rfl⟩) (hpre _ H3 _ 0 q2 (n_P_r hP3) hD3c hS3) rfl rfl hl.1 rfl (lv_room (Nat.le_of_ble_eq_true rfl)) dL_law_12 ⟨Nat.le_of_ble_eq_true rfl, Nat.le_of_ble_eq_true rfl⟩) hS3 (hAA _ H3 _ hD3c hS3) (fun w2 H4 locs4 hw2 hP4 hD4 hk4 hS4 => ?_)
  obtain ⟨α2, ρ2, hq2, s2, b2, c2, rfl⟩ := hw2
  obtain ⟨hP5, hD5⟩ := n_join hP3 hD3 hk4 (hAA _ H3 _ hD3c hS3) hP4 hD4
  refine lv_astore_n (lv' := [(2, .ref q2), (1, .ref q1), (0, .ref b)]) hx hb dL_law_15 rfl hl (by decide) rfl (fun ls hl => ?_)
  -- its calls
  obtain ⟨hJ1, hAz1⟩ := nJ (h := q1) (n_D_l hD5)
  obtain ⟨hJ2, hAz2⟩ := nJ (h := q2) (n_D_r hD5)
  have hst1 : ∀ (α ρ : Nat → Nat → Nat) (h hq s1 : Nat) (b1 c1 : Nat → Nat), zm_St (nG G α ρ h hq s1 b1 c1) (lA s) s s.heap := by
    intro α ρ h hq s1 b1 c1 k hk
    have ea : (nG G α ρ h hq s1 b1 c1).2.1 (1000 + (k : Int)) = g0 (1000 + (k : Int)) := by
      show nAd α ρ h hq s1 b1 c1 G.2.1 (1000 + (k : Int)) = _
      rw [nAd_far _ _ _ _ _ _ _ _ (by omega), e0]
    unfold zm_S1
    rw [ea]
    exact hst k hk
  have hdis : ∀ q, zm_A (nG G α ρ q1 hq s1 b1 c1) q → ¬ zm_A (nG G α2 ρ2 q2 hq2 s2 b2 c2) q := by
    intro q h1 h2
    obtain ⟨-, i1, p1, z1, z2⟩ := hAz1 q h1
    obtain ⟨-, i2, p2, z3, z4⟩ := hAz2 q h2
    exact n_D_x hD5 z1 z3 (z2.trans z4.symm)
  have C : dOk (lwX (nG G α ρ q1 hq s1 b1 c1) (nAd α2 ρ2 q2 hq2 s2 b2 c2 G.2.1) b (p, e, s, m, #[Value.ref b], below, meth, c) (lw_Z below #[Value.ref b] s) (lA s)) := ⟨hx, hb, hml, htz, hown, hK, hst1 _ _ _ _ _ _ _, hst1 α2 ρ2 q2 hq2 s2 b2 c2, hJ1, hJ2, hdis, hN, fun q h => (hAz1 q h).1, fun q h => (hAz2 q h).1⟩
  have hs : lwS b L xs (p, e, s, m, #[Value.ref b], below, meth, c) (lA s) := ⟨hX, hbl, Nat.not_le.mpr hbl, by omega⟩
  have hl' := lv_sub (l' := [(0, .ref b), (1, .ref q1), (2, .ref q2)]) hl [2, 1, 0] rfl
  refine law_0 nO0 nT0 nO0 (fun M N hO hP => law_all hs hO hP (fun M N => ?_)) C H4 locs4 ls (nGP (n_P_l hP5)) (nGP (n_P_r hP5)) hS4 hl'
  intro C H locs ls hP hP2 hS hl
  refine va_forget (fun q hq => hS.2.2 q hq) ?_
  refine W.widen (k := 600000) (n := 7302250) (Nat.le_of_ble_eq_true rfl) (Nat.le_of_ble_eq_true rfl) ?_
  exact lw_ret hx hb hr hlk dL_law_380
