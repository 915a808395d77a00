/-! ===== from the entry ===== -/
theorem nAd_far (α ρ : Nat → Nat → Nat) (h hq s : Nat) (b c m : Nat → Nat) (g0 : Int → Nat) {k : Int} (hk : 195 ≤ k) : nAd α ρ h hq s b c m g0 k = g0 k := by
  unfold nAd
  rw [if_neg (by omega), if_neg (by omega)]
set_option maxRecDepth 100000 in
set_option maxHeartbeats 4000000 in
theorem whole_start {p : Program} {e : Env} {s : State} {m : MethodId} {below : List Frame} {meth : Method} {c : Code} (l : Launch) (hflags : l.flags = flags0) {b L : Nat} {xs : Nat → Int32} (hL : L ≤ 2048) (C0 : lw_At p s m meth c b L xs) : W p l e room_1 s m #[Value.ref b] below meth c s.heap [] 0 0 (lw_Z below #[Value.ref b] s) (entryFrame m ([Value.ref b] : List Value).toArray 4) := by
  obtain ⟨hx, hb, hr, hml, hown, hts, hX, hbl, hlk, hgv⟩ := id C0
  obtain ⟨g0, hst, hZ, hnA, cell, f1, f2, f3, f4, f5⟩ := s_st hts hgv
  obtain ⟨G, rfl, e0, hK, hWo⟩ := s_cls hts l g0
  have hN := s_zN hts
  have hcI : s.vm.findClass "[I" = some (G.2.2.1 0) := (hK.2 0 (G.2.2.1 0, .int) rfl).2
  have hcc : cell.cls = G.2.2.1 0 := Option.some.inj (f4.symm.trans hcI)
  have hF : nF G (lA s) s s.heap := by
    unfold nF
    rw [e0]
    exact ⟨hZ, hnA, cell, f1, f2, f3, hcc, by rw [← hcc]; exact f5⟩
  have htz : ∀ w ∈ zT, w.before #[Value.ref b] s = true := fun w hw => hts w (List.mem_filter.mp hw).1
  have hA : ∀ q : Nat, s.heap.size ≤ q → lA s q := fun _ h => h
  have hS : va_S (lA s) s.heap s.heap [] := va_S.rf
  have hP : va_P G.2.2.2 zm_cls [] s.heap := fun k q h => by simp at h
  have hD : va_D (lA s) [] := ⟨fun i j p q h => by simp at h, fun k q h => by simp at h⟩
  -- what a constructor wants, over any heap of ours
  have hpre : ∀ (ws : va_W) (H : Heap) (locs : List Loc) (k a : Nat), va_P G.2.2.2 zm_cls ws H → va_D (lA s) ws → va_S (lA s) s.heap H locs → PreS s H (va_Pc [.ref a] (nPre G ws H.size)) (.ref a :: []) := by
    intro ws H locs k a hP hD hS
    have hAA : ∀ q, va_A ws H.size q → lA s q := by
      intro q hq
      rcases hq with ⟨k, e, hk⟩ | hq
      · exact hD.2 k _ hk
      · exact Nat.le_trans hS.1 hq
    refine ⟨nPre_blind, fun U hU hW => ⟨rfl, ?_⟩⟩
    subst hU
    exact ⟨rfl, hP, hD.weaken (fun _ _ _ _ => trivial), va_K.moved hW.alike hK, ((hF.kept (fun a h1 h2 => hS.2.1 a h1 h2)).moved hW.alike).narrow hAA, hN.warm hW, hWo.warm hW⟩
  have hAA : ∀ (ws : va_W) (H : Heap) (locs : List Loc), va_D (lA s) ws → va_S (lA s) s.heap H locs → ∀ q, va_A ws H.size q → lA s q := by
    intro ws H locs hD hS q hq
    rcases hq with ⟨k, e, hk⟩ | hq
    · exact hD.2 k _ hk
    · exact Nat.le_trans hS.1 hq
  have hl := lv_entry ([.ref b]) (n := 4) (Nat.le_of_ble_eq_true rfl)
  rw [lg_entry_eq]
  generalize (lg_sl ([.ref b]) ++ List.replicate (4 - (lg_sl ([.ref b])).length) Slot.unset).toArray = ls at hl ⊢
  have hl : lv_has ls 4 [(0, .ref b)] := hl
  -- the class
  refine va_new (ci := 4) (fs := [.null, .null, .null, .int 0, .null, .null, .null, .int 0, .int 0]) hx hb htz (zm_inT zm_in4) tyX4 tyX4_ok hown (htz _ lCl_7) (htz _ nIns_4) (htz _ nIni_4) hK hP hD hS hA rfl (show ∀ j, j < 9 → defaultValue (tyX4 j) = vp_V _ j by decide) (Nat.le_of_ble_eq_true rfl) (Nat.le_of_ble_eq_true rfl) dL_law_0 (fun q1 H1 hP1 hD1 hS1 => ?_)
  refine lv_dup hx hb dL_law_3 rfl ?_
  refine nAfter (G := G) (va_runI (As := []) (rest := [.ref q1]) (nL := 4) ⟨hx, hb, hml, hown, htz⟩ (kX4_init (G := G) (h := q1) H1.size) (cwI 0 htz (zGood yX4_init YX4_init mX4_init.1.2.1) rfl rfl rfl (htz _ mX4_init.1.1) (htz _ lL_9) (htz _ mX4_init.2.2.2) rfl mX4_init.1.2.2.1 ⟨Nat.le_of_ble_eq_true rfl, Nat.le_of_ble_eq_true rfl⟩) (hpre _ H1 _ 0 q1 hP1 hD1 hS1) rfl rfl hl.1 rfl (lv_room (Nat.le_of_ble_eq_true rfl)) dL_law_4 ⟨Nat.le_of_ble_eq_true rfl, Nat.le_of_ble_eq_true rfl⟩) hS1 (hAA _ H1 _ hD1 hS1) (fun w1 H2 locs2 hw1 hP2 hD2 hk2 hS2 => ?_)
  obtain ⟨α, ρ, hq, s1, b1, c1, rfl⟩ := hw1
  have hD2 := hD2.weaken (fun k q _ h => hAA _ H1 _ hD1 hS1 q.1 h)
  refine lv_astore_n (lv' := [(1, .ref q1), (0, .ref b)]) hx hb dL_law_7 rfl hl (by decide) rfl (fun ls hl => ?_)
  -- the model
  refine va_new (ci := 5) (fs := [.null, .null, .null, .int 0, .null, .int 0, .null, .int 0, .int 0, .int 0, .int 0, .int 0, .int 0, .int 0, .int 0, .int 0, .int 0, .null, .null]) hx hb htz (zm_inT zm_in5) tyX5 tyX5_ok hown (htz _ lCl_10) (htz _ nIns_5) (htz _ nIni_5) hK hP2 hD2 hS2 hA rfl (show ∀ j, j < 19 → defaultValue (tyX5 j) = vp_V _ j by decide) (Nat.le_of_ble_eq_true rfl) (Nat.le_of_ble_eq_true rfl) dL_law_8 (fun q2 H3 hP3 hD3 hS3 => ?_)
  refine lv_dup hx hb dL_law_11 rfl ?_
  have hD3c := n_D_r hD3
  refine nAfter (G := G) (va_runI (As := []) (rest := [.ref q2]) (nL := 4) ⟨hx, hb, hml, hown, htz⟩ (kX5_init (G := G) (h := q2) H3.size) (cwI 0 htz (zGood yX5_init YX5_init mX5_init.1.2.1) rfl rfl rfl (htz _ mX5_init.1.1) (htz _ lL_12) (htz _ mX5_init.2.2.2) rfl mX5_init.1.2.2.1 ⟨Nat.le_of_ble_eq_true rfl, Nat.le_of_ble_eq_true rfl⟩) (hpre _ H3 _ 0 q2 (n_P_r hP3) hD3c hS3) rfl rfl hl.1 rfl (lv_room (Nat.le_of_ble_eq_true rfl)) dL_law_12 ⟨Nat.le_of_ble_eq_true rfl, Nat.le_of_ble_eq_true rfl⟩) hS3 (hAA _ H3 _ hD3c hS3) (fun w2 H4 locs4 hw2 hP4 hD4 hk4 hS4 => ?_)
  obtain ⟨m1, em, rfl⟩ := hw2
  obtain ⟨hP5, hD5⟩ := n_join hP3 hD3 hk4 (hAA _ H3 _ hD3c hS3) hP4 hD4
  refine lv_astore_n (lv' := [(2, .ref q2), (1, .ref q1), (0, .ref b)]) hx hb dL_law_15 rfl hl (by decide) rfl (fun ls hl => ?_)
  refine lv_iconst (v := Int32.ofInt ((0 : Nat) : Int)) hx hb dL_law_16 rfl ?_
  refine lv_istore_n (lv' := [(3, .int (Int32.ofInt ((0 : Nat) : Int))), (2, .ref q2), (1, .ref q1), (0, .ref b)]) hx hb dL_law_17 rfl hl (by decide) rfl (fun ls hl => ?_)
  -- the loop
  obtain ⟨hJ, hAz⟩ := nJ (h := q1) hD5
  have hst' : zm_St (nG G α ρ q1 hq s1 b1 c1 m1) (zm_A (nG G α ρ q1 hq s1 b1 c1 m1)) s s.heap := by
    intro k hk
    have ea : (nG G α ρ q1 hq s1 b1 c1 m1).2.1 (1000 + (k : Int)) = g0 (1000 + (k : Int)) := by
      show nAd α ρ q1 hq s1 b1 c1 m1 G.2.1 (1000 + (k : Int)) = _
      rw [nAd_far _ _ _ _ _ _ _ _ _ (by omega), e0]
    unfold zm_S1
    rw [ea]
    exact ⟨(hst k hk).1.narrow hAz, (hst k hk).2.narrow hAz⟩
  have C : lCx (nG G α ρ q1 hq s1 b1 c1 m1) p s m meth c b L xs := ⟨C0, hL, hK, hst', hN, hJ, hAz⟩
  refine law_loop C (L + 5) 0 nM0 (by omega) (by omega) nC0 H4 locs4 ls (nGP hP5) hS4 ?_
  have e2 : (nG G α ρ q1 hq s1 b1 c1 m1).2.1 187 = q2 := em
  have hl' := lv_sub (l' := [(3, .int (Int32.ofInt ((0 : Nat) : Int))), (0, .ref b), (1, .ref q1), (2, .ref q2)]) hl [0, 3, 2, 1] rfl
  unfold lLo
  rw [e2]
  exact hl'
