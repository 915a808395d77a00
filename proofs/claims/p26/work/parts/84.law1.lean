/-! ===== the law: its loops ===== -/
theorem zinj {x y : Int} (h : (some (.inl x) : Option zV) = some (.inl y)) : x = y := Sum.inl.inj (Option.some.inj h)

theorem lb1 {G : zG} {g : Int → Nat} {b L : Nat} {xs : Nat → Int32} {F : dFt} {Qe : State → Prop} {A : Nat → Prop} {b1 b2 : Int} {T : wAb} {M N : zM} {k : Int} (hs : lwS b L xs F A) (hk : 0 ≤ k ∧ k < 40) (hO : zO b1 M T) (hP : zO b2 N T) (kk : ∀ M N : zM, zO (b1 + 990) M (aAct T (cV L xs k).toInt).2 → zO b2 N T → dW (lwX G g b F Qe A) 124 [(6, .inl (aAct T (cV L xs k).toInt).1), (5, .inl (cV L xs k).toInt), (4, .inl k), (3, .inl 1), (0, .inr (some (-1))), (1, .inr (some 175)), (2, .inr (some 675))] [] M N) : dW (lwX G g b F Qe A) 89 [(4, .inl k), (3, .inl 1), (0, .inr (some (-1))), (1, .inr (some 175)), (2, .inr (some 675))] [] M N := by
  have hv := cV_r L xs k
  refine d_aload_n dL_law_89 rfl ?_
  refine d_iload dL_law_90 rfl ?_
  refine d_cell hs (by omega) rfl dL_law_92 kL_92 (by show _ ≤ 8; simp) ?_
  refine d_istore dL_law_95 (Nat.le_of_ble_eq_true rfl) ?_
  refine d_aload_n dL_law_97 rfl ?_
  refine d_iload dL_law_98 rfl ?_
  refine d_callS1 mL_acts (t_acts (by omega) hO) (fun v M q => ⟨_, q.1⟩) rfl rfl dL_law_100 kL_95 ⟨Nat.le_of_ble_eq_true rfl, Nat.le_of_ble_eq_true rfl⟩ ⟨Nat.le_of_ble_eq_true rfl, Nat.le_of_ble_eq_true rfl⟩ rfl (by show _ ≤ 8; simp) (fun x100 M100 q100 => ?_)
  obtain ⟨e100, hO⟩ := q100
  rw [zinj e100]
  refine d_istore dL_law_103 (Nat.le_of_ble_eq_true rfl) ?_
  refine d_iload dL_law_105 rfl ?_
  refine d_iconst dL_law_107 ?_
  refine d_irem dL_law_108 (by omega) (by decide) ?_
  refine d_if_gt (tgt := 124) dL_law_109 (by decide) (by omega) (fun c109 => ?_) (fun c109 => ?_)
  · exact d_sub (kk _ _ hO hP) ⟨rfl, rfl, rfl, rfl, rfl, rfl, rfl, trivial⟩
  · refine d_aload_n dL_law_112 rfl ?_
    refine d_iload dL_law_113 rfl ?_
    refine d_ldc (n := 100000) dL_law_115 qL_99 ?_
    refine d_irem dL_law_117 (by omega) (by decide) ?_
    refine d_callS2 mL_refuses (t_refuses (by omega) hP) (fun v M q => ⟨_, q.1⟩) rfl rfl dL_law_118 kL_100 ⟨Nat.le_of_ble_eq_true rfl, Nat.le_of_ble_eq_true rfl⟩ ⟨Nat.le_of_ble_eq_true rfl, Nat.le_of_ble_eq_true rfl⟩ rfl (by show _ ≤ 8; simp) (fun x118 M118 q118 => ?_)
    obtain ⟨e118, hP⟩ := q118
    rw [zinj e118]
    refine d_if_eq (tgt := 173) dL_law_121 (by decide) (by decide) (fun h => absurd h (by decide)) (fun _ => ?_)
    exact d_sub (kk _ _ hO hP) ⟨rfl, rfl, rfl, rfl, rfl, rfl, rfl, trivial⟩

theorem lb2 {G : zG} {g : Int → Nat} {b L : Nat} {xs : Nat → Int32} {F : dFt} {Qe : State → Prop} {A : Nat → Prop} {b1 b2 : Int} {T : wAb} {M N : zM} {k : Int} (hs : lwS b L xs F A) (hk : 0 ≤ k ∧ k < 40) (hO : zO (b1 + 990) M (aAct T (cV L xs k).toInt).2) (hP : zO b2 N T) (kk : ∀ M N : zM, zO (b1 + 990) M (aAct T (cV L xs k).toInt).2 → zO (b2 + 990) N (aAct T (cV L xs k).toInt).2 → dW (lwX G g b F Qe A) 143 [(4, .inl k), (3, .inl 1), (0, .inr (some (-1))), (1, .inr (some 175)), (2, .inr (some 675))] [] M N) : dW (lwX G g b F Qe A) 124 [(6, .inl (aAct T (cV L xs k).toInt).1), (5, .inl (cV L xs k).toInt), (4, .inl k), (3, .inl 1), (0, .inr (some (-1))), (1, .inr (some 175)), (2, .inr (some 675))] [] M N := by
  have hv := cV_r L xs k
  refine d_aload_n dL_law_124 rfl ?_
  refine d_iload dL_law_125 rfl ?_
  refine d_callS2 mL_acts (t_acts (by omega) hP) (fun v M q => ⟨_, q.1⟩) rfl rfl dL_law_127 kL_95 ⟨Nat.le_of_ble_eq_true rfl, Nat.le_of_ble_eq_true rfl⟩ ⟨Nat.le_of_ble_eq_true rfl, Nat.le_of_ble_eq_true rfl⟩ rfl (by show _ ≤ 8; simp) (fun x127 M127 q127 => ?_)
  obtain ⟨e127, hP⟩ := q127
  rw [zinj e127]
  refine d_iload dL_law_130 rfl ?_
  refine d_same_ne (tgt := 173) dL_law_132 (by decide) ?_
  refine d_aload_n dL_law_135 rfl ?_
  refine d_aload_n dL_law_136 rfl ?_
  refine d_same hO hP rfl dL_law_137 kL_104 (by show _ ≤ 8; simp) (fun M137 N137 hO hP => ?_)
  refine d_if_eq (tgt := 173) dL_law_140 (by decide) (by decide) (fun h => absurd h (by decide)) (fun _ => ?_)
  exact d_sub (kk _ _ hO hP) ⟨rfl, rfl, rfl, rfl, rfl, trivial⟩

theorem lb3 {G : zG} {g : Int → Nat} {b L : Nat} {xs : Nat → Int32} {F : dFt} {Qe : State → Prop} {A : Nat → Prop} {b1 b2 : Int} {T : wAb} {M N : zM} {k : Int} (hs : lwS b L xs F A) (hk : 0 ≤ k ∧ k < 40) (hO : zO b1 M T) (hP : zO b2 N T) (kk : ∀ M N : zM, zO b1 M T → zO b2 N T → dW (lwX G g b F Qe A) 78 [(4, .inl (k + 1)), (3, .inl 1), (0, .inr (some (-1))), (1, .inr (some 175)), (2, .inr (some 675))] [] M N) : dW (lwX G g b F Qe A) 143 [(4, .inl k), (3, .inl 1), (0, .inr (some (-1))), (1, .inr (some 175)), (2, .inr (some 675))] [] M N := by
  have k166 : ∀ M N : zM, zO b1 M T → zO b2 N T → dW (lwX G g b F Qe A) 166 [(4, .inl k), (3, .inl 1), (0, .inr (some (-1))), (1, .inr (some 175)), (2, .inr (some 675))] [.inl 1] M N := by
    intro M N hO hP
    refine d_if_eq (tgt := 173) dL_law_166 (by decide) (by decide) (fun h => absurd h (by decide)) (fun _ => ?_)
    refine d_iconst dL_law_169 ?_
    refine d_goto (tgt := 174) dL_law_170 (by decide) ?_
    refine d_istore_n dL_law_174 (Nat.le_of_ble_eq_true rfl) ?_
    refine d_iinc dL_law_175 rfl (Nat.le_of_ble_eq_true rfl) ?_
    refine d_goto (tgt := 78) dL_law_178 (by decide) ?_
    exact d_sub (kk _ _ hO hP) ⟨rfl, rfl, rfl, rfl, rfl, trivial⟩
  refine d_iload dL_law_143 rfl ?_
  refine d_bipush dL_law_145 (by decide) ?_
  refine d_irem dL_law_147 (by omega) (by decide) ?_
  refine d_if_gt (tgt := 169) dL_law_148 (by decide) (by omega) (fun c148 => ?_) (fun c148 => ?_)
  · refine d_iconst dL_law_169 ?_
    refine d_goto (tgt := 174) dL_law_170 (by decide) ?_
    refine d_istore_n dL_law_174 (Nat.le_of_ble_eq_true rfl) ?_
    refine d_iinc dL_law_175 rfl (Nat.le_of_ble_eq_true rfl) ?_
    refine d_goto (tgt := 78) dL_law_178 (by decide) ?_
    exact d_sub (kk _ _ hO hP) ⟨rfl, rfl, rfl, rfl, rfl, trivial⟩
  · refine d_iload dL_law_151 rfl ?_
    refine d_iconst dL_law_153 ?_
    refine d_irem dL_law_154 (by omega) (by decide) ?_
    refine d_if_ne (tgt := 162) dL_law_155 (by decide) (by omega) (fun c155 => ?_) (fun c155 => ?_)
    · refine d_aload_n dL_law_162 rfl ?_
      refine d_callS2 mL_hangs (t_hangs hP) (fun v M q => ⟨_, q.1⟩) rfl rfl dL_law_163 kL_86 ⟨Nat.le_of_ble_eq_true rfl, Nat.le_of_ble_eq_true rfl⟩ ⟨Nat.le_of_ble_eq_true rfl, Nat.le_of_ble_eq_true rfl⟩ rfl (by show _ ≤ 8; simp) (fun x163 M163 q163 => ?_)
      obtain ⟨e163, hP⟩ := q163
      rw [zinj e163]
      exact k166 _ _ hO hP
    · refine d_aload_n dL_law_158 rfl ?_
      refine d_goto (tgt := 163) dL_law_159 (by decide) ?_
      refine d_callS1 mL_hangs (t_hangs hO) (fun v M q => ⟨_, q.1⟩) rfl rfl dL_law_163 kL_86 ⟨Nat.le_of_ble_eq_true rfl, Nat.le_of_ble_eq_true rfl⟩ ⟨Nat.le_of_ble_eq_true rfl, Nat.le_of_ble_eq_true rfl⟩ rfl (by show _ ≤ 8; simp) (fun x163 M163 q163 => ?_)
      obtain ⟨e163, hO⟩ := q163
      rw [zinj e163]
      exact k166 _ _ hO hP

theorem law_40 {G : zG} {g : Int → Nat} {b L : Nat} {xs : Nat → Int32} {F : dFt} {Qe : State → Prop} {A : Nat → Prop} {b0 : Int} (hs : lwS b L xs F A) (kx : ∀ (T : wAb) (M N : zM), zO (b0 + 39600) M T → zO (b0 + 39600) N T → dW (lwX G g b F Qe A) 181 [(3, .inl 1), (0, .inr (some (-1))), (1, .inr (some 175)), (2, .inr (some 675))] [] M N) : ∀ (n : Nat) (k : Int) (T : wAb) (M N : zM), zO (b0 + 990 * k) M T → zO (b0 + 990 * k) N T → 0 ≤ k → k + n = 40 → dW (lwX G g b F Qe A) 78 [(4, .inl k), (3, .inl 1), (0, .inr (some (-1))), (1, .inr (some 175)), (2, .inr (some 675))] [] M N
  | 0, k, T, M, N, hO, hP, hk, hkn => by
    refine d_iload dL_law_78 rfl ?_
    refine d_bipush dL_law_80 (by decide) ?_
    refine d_icmp_ge (tgt := 181) dL_law_82 (by decide) (by omega) (by decide) (fun q => ?_) (fun q => absurd trivial (by omega))
    exact d_sub (kx T _ _ (hO.le (by omega)) (hP.le (by omega))) ⟨rfl, rfl, rfl, rfl, trivial⟩
  | n + 1, k, T, M, N, hO, hP, hk, hkn => by
    refine d_iload dL_law_78 rfl ?_
    refine d_bipush dL_law_80 (by decide) ?_
    refine d_icmp_ge (tgt := 181) dL_law_82 (by decide) (by omega) (by decide) (fun q => absurd trivial (by omega)) (fun q => ?_)
    refine d_iload_n dL_law_85 rfl ?_
    refine d_if_eq (tgt := 181) dL_law_86 (by decide) (by decide) (fun h => absurd h (by decide)) (fun _ => ?_)
    refine lb1 hs ⟨hk, q⟩ hO hP (fun M N hO hP => ?_)
    refine lb2 hs ⟨hk, q⟩ hO hP (fun M N hO hP => ?_)
    refine lb3 hs ⟨hk, q⟩ hO hP (fun M N hO hP => ?_)
    exact law_40 hs kx n (k + 1) _ M N (hO.le (by omega)) (hP.le (by omega)) (by omega) (by omega)

theorem lt1 {G : zG} {g : Int → Nat} {b : Nat} {F : dFt} {Qe : State → Prop} {A : Nat → Prop} {b1 b2 : Int} {T To Tq : wAb} {M N : zM} {k m : Int} (hk : 0 ≤ k ∧ k < m) (hm : m ≤ 31) (hb : b1 ≤ 90000) (hT : To.1 = sTs k T.1) (hO : zO b1 M To) (hP : zO b2 N Tq) (kk : ∀ (M N : zM), zO (b1 + 1) M (aRec To (sTs 1 To.1)) → zO b2 N Tq → dW (lwX G g b F Qe A) 200 [(6, .inl (k + 1)), (5, .inl (sTs (k + 1) T.1 537 - T.1 537)), (4, .inl m), (3, .inl 1), (0, .inr (some (-1))), (1, .inr (some 175)), (2, .inr (some 675))] [] M N) : dW (lwX G g b F Qe A) 211 [(6, .inl k), (5, .inl (sTs k T.1 537 - T.1 537)), (4, .inl m), (3, .inl 1), (0, .inr (some (-1))), (1, .inr (some 175)), (2, .inr (some 675))] [] M N := by
  refine d_iload dL_law_211 rfl ?_
  refine d_aload_n dL_law_213 rfl ?_
  refine d_iconst dL_law_214 ?_
  refine d_callV1 mX4_pass (e_turns (by decide) (by omega) hO) (fun v M q => ⟨_, q.1⟩) rfl rfl dL_law_215 kL_49 ⟨Nat.le_of_ble_eq_true rfl, Nat.le_of_ble_eq_true rfl⟩ ⟨Nat.le_of_ble_eq_true rfl, Nat.le_of_ble_eq_true rfl⟩ rfl (by show _ ≤ 8; simp) rfl (fun x215 M215 q215 => ?_)
  obtain ⟨e215, hO⟩ := q215
  rw [zinj e215]
  refine d_iadd dL_law_218 ?_
  rw [show sTs k T.1 537 - T.1 537 + (sTs 1 To.1 537 - To.1 537) = sTs (k + 1) T.1 537 - T.1 537 from by rw [sTs_s T.1 hk.1, sTs_1, hT]; omega]
  refine d_istore dL_law_219 (Nat.le_of_ble_eq_true rfl) ?_
  refine d_iinc dL_law_221 rfl (Nat.le_of_ble_eq_true rfl) ?_
  refine d_goto (tgt := 200) dL_law_224 (by decide) ?_
  exact d_sub (kk _ _ hO hP) ⟨rfl, rfl, rfl, rfl, rfl, rfl, rfl, trivial⟩

theorem law_many {G : zG} {g : Int → Nat} {b : Nat} {F : dFt} {Qe : State → Prop} {A : Nat → Prop} {b2 : Int} {T Tq : wAb} {m : Int} (hm : 0 ≤ m ∧ m ≤ 31) (kx : ∀ (To : wAb) (M N : zM), To.1 = sTs m T.1 → zO 40000 M To → zO b2 N Tq → dW (lwX G g b F Qe A) 227 [(5, .inl (sTs m T.1 537 - T.1 537)), (4, .inl m), (3, .inl 1), (0, .inr (some (-1))), (1, .inr (some 175)), (2, .inr (some 675))] [] M N) : ∀ (n : Nat) (k : Int) (To : wAb) (M N : zM), To.1 = sTs k T.1 → zO (39700 + k) M To → zO b2 N Tq → 0 ≤ k → k + n = m → dW (lwX G g b F Qe A) 200 [(6, .inl k), (5, .inl (sTs k T.1 537 - T.1 537)), (4, .inl m), (3, .inl 1), (0, .inr (some (-1))), (1, .inr (some 175)), (2, .inr (some 675))] [] M N
  | 0, k, To, M, N, hT, hO, hP, hk, hkn => by
    rw [show k = m by omega] at hT ⊢
    refine d_iload dL_law_200 rfl ?_
    refine d_iload dL_law_202 rfl ?_
    refine d_icmp_ge (tgt := 227) dL_law_204 (by decide) (by omega) (by omega) (fun q => ?_) (fun q => absurd trivial (by omega))
    exact d_sub (kx To _ _ hT (hO.le (by omega)) hP) ⟨rfl, rfl, rfl, rfl, rfl, rfl, trivial⟩
  | n + 1, k, To, M, N, hT, hO, hP, hk, hkn => by
    refine d_iload dL_law_200 rfl ?_
    refine d_iload dL_law_202 rfl ?_
    refine d_icmp_ge (tgt := 227) dL_law_204 (by decide) (by omega) (by omega) (fun q => absurd trivial (by omega)) (fun q => ?_)
    refine d_iload_n dL_law_207 rfl ?_
    refine d_if_eq (tgt := 227) dL_law_208 (by decide) (by decide) (fun h => absurd h (by decide)) (fun _ => ?_)
    refine lt1 ⟨hk, q⟩ hm.2 (by omega) hT hO hP (fun M N hO hP => ?_)
    exact law_many hm kx n (k + 1) _ M N (by show sTs 1 To.1 = _; rw [sTs_1, hT, ← sTs_s T.1 hk]) (hO.le (by omega)) hP (by omega) (by omega)

theorem lt2 {G : zG} {g : Int → Nat} {b : Nat} {F : dFt} {Qe : State → Prop} {A : Nat → Prop} {b1 : Int} {T To : wAb} {M N : zM} {m : Int} (hm : 2 ≤ m ∧ m ≤ 31) (hT : To.1 = sTs m T.1) (hO : zO b1 M To) (hP : zO 39700 N T) (kk : ∀ (Tq : wAb) (M N : zM), Tq.1 = sTs m T.1 → zO b1 M To → zO 40000 N Tq → dW (lwX G g b F Qe A) 251 [(6, .inl 0), (3, .inl 1), (0, .inr (some (-1))), (1, .inr (some 175)), (2, .inr (some 675))] [] M N) : dW (lwX G g b F Qe A) 227 [(5, .inl (sTs m T.1 537 - T.1 537)), (4, .inl m), (3, .inl 1), (0, .inr (some (-1))), (1, .inr (some 175)), (2, .inr (some 675))] [] M N := by
  refine d_iload_n dL_law_227 rfl ?_
  refine d_if_eq (tgt := 246) dL_law_228 (by decide) (by decide) (fun h => absurd h (by decide)) (fun _ => ?_)
  refine d_aload_n dL_law_231 rfl ?_
  refine d_iload dL_law_232 rfl ?_
  refine d_callV2 mX4_pass (e_turns (by omega) (by omega) hP) (fun v M q => ⟨_, q.1⟩) rfl rfl dL_law_234 kL_49 ⟨Nat.le_of_ble_eq_true rfl, Nat.le_of_ble_eq_true rfl⟩ ⟨Nat.le_of_ble_eq_true rfl, Nat.le_of_ble_eq_true rfl⟩ rfl (by show _ ≤ 8; simp) rfl (fun x234 M234 q234 => ?_)
  obtain ⟨e234, hP⟩ := q234
  rw [zinj e234]
  refine d_iload dL_law_237 rfl ?_
  refine d_same_ne (tgt := 246) dL_law_239 (by decide) ?_
  refine d_iconst dL_law_242 ?_
  refine d_goto (tgt := 247) dL_law_243 (by decide) ?_
  refine d_istore_n dL_law_247 (Nat.le_of_ble_eq_true rfl) ?_
  refine d_iconst dL_law_248 ?_
  refine d_istore dL_law_249 (Nat.le_of_ble_eq_true rfl) ?_
  exact d_sub (kk _ _ _ rfl hO (hP.le (by omega))) ⟨rfl, rfl, rfl, rfl, rfl, trivial⟩

theorem lt3 {G : zG} {g : Int → Nat} {b : Nat} {F : dFt} {Qe : State → Prop} {A : Nat → Prop} {b1 b2 : Int} {To Tq : wAb} {σ : zS} {k : Int} {M N : zM} (h1 : To.1 = σ) (h2 : Tq.1 = σ) (hk : 0 ≤ k ∧ k < 8) (hO : zO b1 M To) (hP : zO b2 N Tq) (kk : ∀ M N : zM, zO b1 M To → zO b2 N Tq → dW (lwX G g b F Qe A) 251 [(6, .inl (k + 1)), (3, .inl 1), (0, .inr (some (-1))), (1, .inr (some 175)), (2, .inr (some 675))] [] M N) : dW (lwX G g b F Qe A) 262 [(6, .inl k), (3, .inl 1), (0, .inr (some (-1))), (1, .inr (some 175)), (2, .inr (some 675))] [] M N := by
  refine d_aload_n dL_law_262 rfl ?_
  refine d_iload dL_law_263 rfl ?_
  refine d_iconst dL_law_265 ?_
  refine d_callV1 mX4_snail (t_snail (w := 1) (by omega) (by decide) hO) (fun v M q => ⟨_, q.1⟩) rfl rfl dL_law_266 kL_55 ⟨Nat.le_of_ble_eq_true rfl, Nat.le_of_ble_eq_true rfl⟩ ⟨Nat.le_of_ble_eq_true rfl, Nat.le_of_ble_eq_true rfl⟩ rfl (by show _ ≤ 8; simp) rfl (fun x266 M266 q266 => ?_)
  obtain ⟨e266, hO⟩ := q266
  rw [zinj e266]
  rw [show sSnail To.1 k 1 = sSnail σ k 1 from by rw [h1]]
  refine d_aload_n dL_law_269 rfl ?_
  refine d_iload dL_law_270 rfl ?_
  refine d_iconst dL_law_272 ?_
  refine d_callV2 mX4_snail (t_snail (w := 1) (by omega) (by decide) hP) (fun v M q => ⟨_, q.1⟩) rfl rfl dL_law_273 kL_55 ⟨Nat.le_of_ble_eq_true rfl, Nat.le_of_ble_eq_true rfl⟩ ⟨Nat.le_of_ble_eq_true rfl, Nat.le_of_ble_eq_true rfl⟩ rfl (by show _ ≤ 8; simp) rfl (fun x273 M273 q273 => ?_)
  obtain ⟨e273, hP⟩ := q273
  rw [zinj e273]
  rw [show sSnail Tq.1 k 1 = sSnail σ k 1 from by rw [h2]]
  refine d_same_ne (tgt := 317) dL_law_276 (by decide) ?_
  refine d_aload_n dL_law_279 rfl ?_
  refine d_iload dL_law_280 rfl ?_
  refine d_iconst dL_law_282 ?_
  refine d_callV1 mX4_snail (t_snail (w := 2) (by omega) (by decide) hO) (fun v M q => ⟨_, q.1⟩) rfl rfl dL_law_283 kL_55 ⟨Nat.le_of_ble_eq_true rfl, Nat.le_of_ble_eq_true rfl⟩ ⟨Nat.le_of_ble_eq_true rfl, Nat.le_of_ble_eq_true rfl⟩ rfl (by show _ ≤ 8; simp) rfl (fun x283 M283 q283 => ?_)
  obtain ⟨e283, hO⟩ := q283
  rw [zinj e283]
  rw [show sSnail To.1 k 2 = sSnail σ k 2 from by rw [h1]]
  refine d_aload_n dL_law_286 rfl ?_
  refine d_iload dL_law_287 rfl ?_
  refine d_iconst dL_law_289 ?_
  refine d_callV2 mX4_snail (t_snail (w := 2) (by omega) (by decide) hP) (fun v M q => ⟨_, q.1⟩) rfl rfl dL_law_290 kL_55 ⟨Nat.le_of_ble_eq_true rfl, Nat.le_of_ble_eq_true rfl⟩ ⟨Nat.le_of_ble_eq_true rfl, Nat.le_of_ble_eq_true rfl⟩ rfl (by show _ ≤ 8; simp) rfl (fun x290 M290 q290 => ?_)
  obtain ⟨e290, hP⟩ := q290
  rw [zinj e290]
  rw [show sSnail Tq.1 k 2 = sSnail σ k 2 from by rw [h2]]
  refine d_same_ne (tgt := 317) dL_law_293 (by decide) ?_
  refine d_aload_n dL_law_296 rfl ?_
  refine d_iload dL_law_297 rfl ?_
  refine d_iconst dL_law_299 ?_
  refine d_callV1 mX4_snail (t_snail (w := 4) (by omega) (by decide) hO) (fun v M q => ⟨_, q.1⟩) rfl rfl dL_law_300 kL_55 ⟨Nat.le_of_ble_eq_true rfl, Nat.le_of_ble_eq_true rfl⟩ ⟨Nat.le_of_ble_eq_true rfl, Nat.le_of_ble_eq_true rfl⟩ rfl (by show _ ≤ 8; simp) rfl (fun x300 M300 q300 => ?_)
  obtain ⟨e300, hO⟩ := q300
  rw [zinj e300]
  rw [show sSnail To.1 k 4 = sSnail σ k 4 from by rw [h1]]
  refine d_aload_n dL_law_303 rfl ?_
  refine d_iload dL_law_304 rfl ?_
  refine d_iconst dL_law_306 ?_
  refine d_callV2 mX4_snail (t_snail (w := 4) (by omega) (by decide) hP) (fun v M q => ⟨_, q.1⟩) rfl rfl dL_law_307 kL_55 ⟨Nat.le_of_ble_eq_true rfl, Nat.le_of_ble_eq_true rfl⟩ ⟨Nat.le_of_ble_eq_true rfl, Nat.le_of_ble_eq_true rfl⟩ rfl (by show _ ≤ 8; simp) rfl (fun x307 M307 q307 => ?_)
  obtain ⟨e307, hP⟩ := q307
  rw [zinj e307]
  rw [show sSnail Tq.1 k 4 = sSnail σ k 4 from by rw [h2]]
  refine d_same_ne (tgt := 317) dL_law_310 (by decide) ?_
  refine d_iconst dL_law_313 ?_
  refine d_goto (tgt := 318) dL_law_314 (by decide) ?_
  refine d_istore_n dL_law_318 (Nat.le_of_ble_eq_true rfl) ?_
  refine d_iinc dL_law_319 rfl (Nat.le_of_ble_eq_true rfl) ?_
  refine d_goto (tgt := 251) dL_law_322 (by decide) ?_
  exact d_sub (kk _ _ hO hP) ⟨rfl, rfl, rfl, rfl, rfl, trivial⟩

theorem law_8 {G : zG} {g : Int → Nat} {b : Nat} {F : dFt} {Qe : State → Prop} {A : Nat → Prop} {b1 b2 : Int} {To Tq : wAb} {σ : zS} (h1 : To.1 = σ) (h2 : Tq.1 = σ) (kx : ∀ M N : zM, zO b1 M To → zO b2 N Tq → dW (lwX G g b F Qe A) 325 [(3, .inl 1), (0, .inr (some (-1))), (1, .inr (some 175)), (2, .inr (some 675))] [] M N) : ∀ (n : Nat) (k : Int) (M N : zM), zO b1 M To → zO b2 N Tq → 0 ≤ k → k + n = 8 → dW (lwX G g b F Qe A) 251 [(6, .inl k), (3, .inl 1), (0, .inr (some (-1))), (1, .inr (some 175)), (2, .inr (some 675))] [] M N
  | 0, k, M, N, hO, hP, hk, hkn => by
    refine d_iload dL_law_251 rfl ?_
    refine d_bipush dL_law_253 (by decide) ?_
    refine d_icmp_ge (tgt := 325) dL_law_255 (by decide) (by omega) (by decide) (fun q => ?_) (fun q => absurd trivial (by omega))
    exact d_sub (kx _ _ hO hP) ⟨rfl, rfl, rfl, rfl, trivial⟩
  | n + 1, k, M, N, hO, hP, hk, hkn => by
    refine d_iload dL_law_251 rfl ?_
    refine d_bipush dL_law_253 (by decide) ?_
    refine d_icmp_ge (tgt := 325) dL_law_255 (by decide) (by omega) (by decide) (fun q => absurd trivial (by omega)) (fun q => ?_)
    refine d_iload_n dL_law_258 rfl ?_
    refine d_if_eq (tgt := 325) dL_law_259 (by decide) (by decide) (fun h => absurd h (by decide)) (fun _ => ?_)
    exact lt3 h1 h2 ⟨hk, q⟩ hO hP (fun M N hO hP => law_8 h1 h2 kx n (k + 1) M N hO hP (by omega) (by omega))

theorem lt4 {G : zG} {g : Int → Nat} {b : Nat} {F : dFt} {Qe : State → Prop} {A : Nat → Prop} {b1 b2 : Int} {To Tq : wAb} {σ : zS} {M N : zM} (h1 : To.1 = σ) (h2 : Tq.1 = σ) (hO : zO b1 M To) (hP : zO b2 N Tq) (kk : ∀ M N : zM, dW (lwX G g b F Qe A) 380 [] [.inl 1] M N) : dW (lwX G g b F Qe A) 325 [(3, .inl 1), (0, .inr (some (-1))), (1, .inr (some 175)), (2, .inr (some 675))] [] M N := by
  refine d_iload_n dL_law_325 rfl ?_
  refine d_if_eq (tgt := 379) dL_law_326 (by decide) (by decide) (fun h => absurd h (by decide)) (fun _ => ?_)
  refine d_aload_n dL_law_329 rfl ?_
  refine d_iconst dL_law_330 ?_
  refine d_callV1 mX4_count (t_count (w := 0) (by decide) (by decide) hO) (fun v M q => ⟨_, q.1⟩) rfl rfl dL_law_331 kL_9 ⟨Nat.le_of_ble_eq_true rfl, Nat.le_of_ble_eq_true rfl⟩ ⟨Nat.le_of_ble_eq_true rfl, Nat.le_of_ble_eq_true rfl⟩ rfl (by show _ ≤ 8; simp) rfl (fun x331 M331 q331 => ?_)
  obtain ⟨e331, hO⟩ := q331
  rw [zinj e331]
  rw [show sCount To.1 To.2.1.1 0 0 = σ 536 from by rw [h1]; rfl]
  refine d_aload_n dL_law_334 rfl ?_
  refine d_iconst dL_law_335 ?_
  refine d_callV2 mX4_count (t_count (w := 0) (by decide) (by decide) hP) (fun v M q => ⟨_, q.1⟩) rfl rfl dL_law_336 kL_9 ⟨Nat.le_of_ble_eq_true rfl, Nat.le_of_ble_eq_true rfl⟩ ⟨Nat.le_of_ble_eq_true rfl, Nat.le_of_ble_eq_true rfl⟩ rfl (by show _ ≤ 8; simp) rfl (fun x336 M336 q336 => ?_)
  obtain ⟨e336, hP⟩ := q336
  rw [zinj e336]
  rw [show sCount Tq.1 Tq.2.1.1 0 0 = σ 536 from by rw [h2]; rfl]
  refine d_same_ne (tgt := 379) dL_law_339 (by decide) ?_
  refine d_aload_n dL_law_342 rfl ?_
  refine d_iconst dL_law_343 ?_
  refine d_callV1 mX4_count (t_count (w := 4) (by decide) (by decide) hO) (fun v M q => ⟨_, q.1⟩) rfl rfl dL_law_344 kL_9 ⟨Nat.le_of_ble_eq_true rfl, Nat.le_of_ble_eq_true rfl⟩ ⟨Nat.le_of_ble_eq_true rfl, Nat.le_of_ble_eq_true rfl⟩ rfl (by show _ ≤ 8; simp) rfl (fun x344 M344 q344 => ?_)
  obtain ⟨e344, hO⟩ := q344
  rw [zinj e344]
  rw [show sCount To.1 To.2.1.1 0 4 = sTrl σ from by rw [h1]; rfl]
  refine d_aload_n dL_law_347 rfl ?_
  refine d_iconst dL_law_348 ?_
  refine d_callV2 mX4_count (t_count (w := 4) (by decide) (by decide) hP) (fun v M q => ⟨_, q.1⟩) rfl rfl dL_law_349 kL_9 ⟨Nat.le_of_ble_eq_true rfl, Nat.le_of_ble_eq_true rfl⟩ ⟨Nat.le_of_ble_eq_true rfl, Nat.le_of_ble_eq_true rfl⟩ rfl (by show _ ≤ 8; simp) rfl (fun x349 M349 q349 => ?_)
  obtain ⟨e349, hP⟩ := q349
  rw [zinj e349]
  rw [show sCount Tq.1 Tq.2.1.1 0 4 = sTrl σ from by rw [h2]; rfl]
  refine d_same_ne (tgt := 379) dL_law_352 (by decide) ?_
  refine d_aload_n dL_law_355 rfl ?_
  refine d_iconst dL_law_356 ?_
  refine d_callV1 mX4_count (t_count (w := 5) (by decide) (by decide) hO) (fun v M q => ⟨_, q.1⟩) rfl rfl dL_law_357 kL_9 ⟨Nat.le_of_ble_eq_true rfl, Nat.le_of_ble_eq_true rfl⟩ ⟨Nat.le_of_ble_eq_true rfl, Nat.le_of_ble_eq_true rfl⟩ rfl (by show _ ≤ 8; simp) rfl (fun x357 M357 q357 => ?_)
  obtain ⟨e357, hO⟩ := q357
  rw [zinj e357]
  rw [show sCount To.1 To.2.1.1 0 5 = sFro σ from by rw [h1]; rfl]
  refine d_aload_n dL_law_360 rfl ?_
  refine d_iconst dL_law_361 ?_
  refine d_callV2 mX4_count (t_count (w := 5) (by decide) (by decide) hP) (fun v M q => ⟨_, q.1⟩) rfl rfl dL_law_362 kL_9 ⟨Nat.le_of_ble_eq_true rfl, Nat.le_of_ble_eq_true rfl⟩ ⟨Nat.le_of_ble_eq_true rfl, Nat.le_of_ble_eq_true rfl⟩ rfl (by show _ ≤ 8; simp) rfl (fun x362 M362 q362 => ?_)
  obtain ⟨e362, hP⟩ := q362
  rw [zinj e362]
  rw [show sCount Tq.1 Tq.2.1.1 0 5 = sFro σ from by rw [h2]; rfl]
  refine d_same_ne (tgt := 379) dL_law_365 (by decide) ?_
  refine d_aload_n dL_law_368 rfl ?_
  refine d_callS1 mL_hangs (t_hangs hO) (fun v M q => ⟨_, q.1⟩) rfl rfl dL_law_369 kL_86 ⟨Nat.le_of_ble_eq_true rfl, Nat.le_of_ble_eq_true rfl⟩ ⟨Nat.le_of_ble_eq_true rfl, Nat.le_of_ble_eq_true rfl⟩ rfl (by show _ ≤ 8; simp) (fun x369 M369 q369 => ?_)
  obtain ⟨e369, hO⟩ := q369
  rw [zinj e369]
  refine d_if_eq (tgt := 379) dL_law_372 (by decide) (by decide) (fun h => absurd h (by decide)) (fun _ => ?_)
  refine d_iconst dL_law_375 ?_
  refine d_goto (tgt := 380) dL_law_376 (by decide) ?_
  exact d_sub (kk _ _) trivial

theorem law_all {G : zG} {g : Int → Nat} {b L : Nat} {xs : Nat → Int32} {F : dFt} {Qe : State → Prop} {A : Nat → Prop} {T : wAb} {M N : zM} (hs : lwS b L xs F A) (hO : zO 0 M T) (hP : zO 0 N T) (kk : ∀ M N : zM, dW (lwX G g b F Qe A) 380 [] [.inl 1] M N) : dW (lwX G g b F Qe A) 75 [(3, .inl 1), (0, .inr (some (-1))), (1, .inr (some 175)), (2, .inr (some 675))] [] M N := by
  refine d_iconst dL_law_75 ?_
  refine d_istore dL_law_76 (Nat.le_of_ble_eq_true rfl) ?_
  refine d_sub (law_40 (b0 := 0) hs (fun T M N hO hP => ?_) 40 0 T M N (hO.le (by omega)) (hP.le (by omega)) (by decide) (by decide)) ⟨rfl, rfl, rfl, rfl, rfl, trivial⟩
  have hv := cV_r L xs 40
  refine d_iconst dL_law_181 ?_
  refine d_aload_n dL_law_182 rfl ?_
  refine d_bipush dL_law_183 (by decide) ?_
  refine d_cell hs (by decide) rfl dL_law_185 kL_92 (by show _ ≤ 8; simp) ?_
  refine d_bipush dL_law_188 (by decide) ?_
  refine d_irem dL_law_190 (by omega) (by decide) ?_
  refine d_iadd dL_law_191 ?_
  have hm : 2 ≤ 2 + (cV L xs 40).toInt % 30 ∧ 2 + (cV L xs 40).toInt % 30 ≤ 31 := by omega
  generalize 2 + (cV L xs 40).toInt % 30 = m at hm ⊢
  refine d_istore dL_law_192 (Nat.le_of_ble_eq_true rfl) ?_
  refine d_iconst dL_law_194 ?_
  refine d_istore dL_law_195 (Nat.le_of_ble_eq_true rfl) ?_
  refine d_iconst dL_law_197 ?_
  refine d_istore dL_law_198 (Nat.le_of_ble_eq_true rfl) ?_
  have e0 : sTs 0 T.1 537 - T.1 537 = 0 := by rw [sTs_0]; omega
  have K := law_many (G := G) (g := g) (b := b) (F := F) (Qe := Qe) (A := A) (b2 := 39700) (T := T) (Tq := T) (m := m) ⟨by omega, hm.2⟩ (fun To M N hT hO hP => ?_) m.toNat 0 T M N (sTs_0 T.1).symm (hO.le (by omega)) (hP.le (by omega)) (by decide) (by omega)
  · rw [e0] at K
    exact d_sub K ⟨rfl, rfl, rfl, rfl, rfl, rfl, rfl, trivial⟩
  · refine lt2 hm hT hO hP (fun Tq M N hq hO hP => ?_)
    exact law_8 hT hq (fun M N hO hP => lt4 hT hq hO hP kk) 8 0 M N hO hP (by decide) (by decide)
