/-! ===== same() ===== -/
abbrev dFt : Type := Program × Env × State × MethodId × Array Value × List Frame × Method × Code
abbrev smX (G : zG) (g : Int → Nat) (F : dFt) (Qe : State → Prop) (A : Nat → Prop) : dX := (G, g, 0, YL_same, F, (zm_rm 3, 0, 0), Qe, A)

theorem sa1 {G : zG} {g : Int → Nat} {F : dFt} {Qe : State → Prop} {A : Nat → Prop} {b1 b2 : Int} {T : wAb} {M N : zM} {k : Int} (hO : zO b1 M T) (hP : zO b2 N T) (hk : 0 ≤ k ∧ k < 15) (kk : ∀ M N : zM, zO b1 M T → zO b2 N T → dW (smX G g F Qe A) 4 [(3, .inl (k + 1)), (2, .inl 1), (0, .inr (some 175)), (1, .inr (some 675))] [] M N) : dW (smX G g F Qe A) 14 [(3, .inl k), (2, .inl 1), (0, .inr (some 175)), (1, .inr (some 675))] [] M N := by
  refine d_iload_n dL_same_14 rfl ?_
  refine d_bipush dL_same_15 (by decide) ?_
  refine d_icmp_eq (tgt := 33) dL_same_17 (by decide) (by omega) (by decide) (fun c17 => ?_) (fun c17 => ?_)
  · refine d_iconst dL_same_33 ?_
    refine d_goto (tgt := 38) dL_same_34 (by decide) ?_
    refine d_istore_n dL_same_38 (Nat.le_of_ble_eq_true rfl) ?_
    refine d_iinc dL_same_39 rfl (Nat.le_of_ble_eq_true rfl) ?_
    refine d_goto (tgt := 4) dL_same_42 (by decide) ?_
    exact d_sub (kk _ _ hO hP) ⟨rfl, rfl, rfl, rfl, trivial⟩
  · refine d_aload_n dL_same_20 rfl ?_
    refine d_iload_n dL_same_21 rfl ?_
    refine d_callV1 mX4_count (t_count (w := k) (by omega) (by omega) hO) (fun v M q => ⟨_, q.1⟩) rfl rfl dL_same_22 kL_9 ⟨Nat.le_of_ble_eq_true rfl, Nat.le_of_ble_eq_true rfl⟩ ⟨Nat.le_of_ble_eq_true rfl, Nat.le_of_ble_eq_true rfl⟩ rfl (by show _ ≤ 8; simp) rfl (fun x22 M22 q22 => ?_)
    obtain ⟨e22, hO⟩ := q22
    cases e22
    refine d_aload_n dL_same_25 rfl ?_
    refine d_iload_n dL_same_26 rfl ?_
    refine d_callV2 mX4_count (t_count (w := k) (by omega) (by omega) hP) (fun v M q => ⟨_, q.1⟩) rfl rfl dL_same_27 kL_9 ⟨Nat.le_of_ble_eq_true rfl, Nat.le_of_ble_eq_true rfl⟩ ⟨Nat.le_of_ble_eq_true rfl, Nat.le_of_ble_eq_true rfl⟩ rfl (by show _ ≤ 8; simp) rfl (fun x27 M27 q27 => ?_)
    obtain ⟨e27, hP⟩ := q27
    cases e27
    refine d_same_ne (tgt := 37) dL_same_30 (by decide) ?_
    refine d_iconst dL_same_33 ?_
    refine d_goto (tgt := 38) dL_same_34 (by decide) ?_
    refine d_istore_n dL_same_38 (Nat.le_of_ble_eq_true rfl) ?_
    refine d_iinc dL_same_39 rfl (Nat.le_of_ble_eq_true rfl) ?_
    refine d_goto (tgt := 4) dL_same_42 (by decide) ?_
    exact d_sub (kk _ _ hO hP) ⟨rfl, rfl, rfl, rfl, trivial⟩

theorem sl1 {G : zG} {g : Int → Nat} {F : dFt} {Qe : State → Prop} {A : Nat → Prop} {b1 b2 : Int} {T : wAb}   (kx : ∀ M N : zM, zO b1 M T → zO b2 N T → dW (smX G g F Qe A) 45 [(2, .inl 1), (0, .inr (some 175)), (1, .inr (some 675))] [] M N) : ∀ (n : Nat) (k : Int) (M N : zM), zO b1 M T → zO b2 N T → 0 ≤ k → k + n = 15 → dW (smX G g F Qe A) 4 [(3, .inl k), (2, .inl 1), (0, .inr (some 175)), (1, .inr (some 675))] [] M N
  | 0, k, M, N, hO, hP, hk, hkn => by
    refine d_iload_n dL_same_4 rfl ?_
    refine d_bipush dL_same_5 (by decide) ?_
    refine d_icmp_ge (tgt := 45) dL_same_7 (by decide) (by omega) (by decide) (fun q => ?_) (fun q => absurd trivial (by omega))
    exact d_sub (kx _ _ hO hP) ⟨rfl, rfl, rfl, trivial⟩
  | n + 1, k, M, N, hO, hP, hk, hkn => by
    refine d_iload_n dL_same_4 rfl ?_
    refine d_bipush dL_same_5 (by decide) ?_
    refine d_icmp_ge (tgt := 45) dL_same_7 (by decide) (by omega) (by decide) (fun q => absurd trivial (by omega)) (fun q => ?_)
    refine d_iload_n dL_same_10 rfl ?_
    refine d_if_eq (tgt := 45) dL_same_11 (by decide) (by decide) (fun h => absurd h (by decide)) (fun _ => ?_)
    exact sa1 hO hP ⟨hk, q⟩ (fun M N hO hP => sl1 kx n (k + 1) M N hO hP (by omega) (by omega))

theorem sa2 {G : zG} {g : Int → Nat} {F : dFt} {Qe : State → Prop} {A : Nat → Prop} {b1 b2 : Int} {T : wAb} {M N : zM} {i k : Int} (hO : zO b1 M T) (hP : zO b2 N T) (hi : 0 ≤ i ∧ i < 8) (hk : 0 ≤ k ∧ k < 10) (kk : ∀ M N : zM, zO b1 M T → zO b2 N T → dW (smX G g F Qe A) 60 [(4, .inl (k + 1)), (3, .inl i), (2, .inl 1), (0, .inr (some 175)), (1, .inr (some 675))] [] M N) : dW (smX G g F Qe A) 71 [(4, .inl k), (3, .inl i), (2, .inl 1), (0, .inr (some 175)), (1, .inr (some 675))] [] M N := by
  refine d_aload_n dL_same_71 rfl ?_
  refine d_iload_n dL_same_72 rfl ?_
  refine d_iload dL_same_73 rfl ?_
  refine d_callV1 mX4_snail (t_snail (k := i) (w := k) (by omega) (by omega) hO) (fun v M q => ⟨_, q.1⟩) rfl rfl dL_same_75 kL_55 ⟨Nat.le_of_ble_eq_true rfl, Nat.le_of_ble_eq_true rfl⟩ ⟨Nat.le_of_ble_eq_true rfl, Nat.le_of_ble_eq_true rfl⟩ rfl (by show _ ≤ 8; simp) rfl (fun x75 M75 q75 => ?_)
  obtain ⟨e75, hO⟩ := q75
  cases e75
  refine d_aload_n dL_same_78 rfl ?_
  refine d_iload_n dL_same_79 rfl ?_
  refine d_iload dL_same_80 rfl ?_
  refine d_callV2 mX4_snail (t_snail (k := i) (w := k) (by omega) (by omega) hP) (fun v M q => ⟨_, q.1⟩) rfl rfl dL_same_82 kL_55 ⟨Nat.le_of_ble_eq_true rfl, Nat.le_of_ble_eq_true rfl⟩ ⟨Nat.le_of_ble_eq_true rfl, Nat.le_of_ble_eq_true rfl⟩ rfl (by show _ ≤ 8; simp) rfl (fun x82 M82 q82 => ?_)
  obtain ⟨e82, hP⟩ := q82
  cases e82
  refine d_same_ne (tgt := 92) dL_same_85 (by decide) ?_
  refine d_iconst dL_same_88 ?_
  refine d_goto (tgt := 93) dL_same_89 (by decide) ?_
  refine d_istore_n dL_same_93 (Nat.le_of_ble_eq_true rfl) ?_
  refine d_iinc dL_same_94 rfl (Nat.le_of_ble_eq_true rfl) ?_
  refine d_goto (tgt := 60) dL_same_97 (by decide) ?_
  exact d_sub (kk _ _ hO hP) ⟨rfl, rfl, rfl, rfl, rfl, trivial⟩

theorem sl2 {G : zG} {g : Int → Nat} {F : dFt} {Qe : State → Prop} {A : Nat → Prop} {b1 b2 : Int} {T : wAb} {i : Int} (hi : 0 ≤ i ∧ i < 8) (kx : ∀ M N : zM, zO b1 M T → zO b2 N T → dW (smX G g F Qe A) 100 [(3, .inl i), (2, .inl 1), (0, .inr (some 175)), (1, .inr (some 675))] [] M N) : ∀ (n : Nat) (k : Int) (M N : zM), zO b1 M T → zO b2 N T → 0 ≤ k → k + n = 10 → dW (smX G g F Qe A) 60 [(4, .inl k), (3, .inl i), (2, .inl 1), (0, .inr (some 175)), (1, .inr (some 675))] [] M N
  | 0, k, M, N, hO, hP, hk, hkn => by
    refine d_iload dL_same_60 rfl ?_
    refine d_bipush dL_same_62 (by decide) ?_
    refine d_icmp_ge (tgt := 100) dL_same_64 (by decide) (by omega) (by decide) (fun q => ?_) (fun q => absurd trivial (by omega))
    exact d_sub (kx _ _ hO hP) ⟨rfl, rfl, rfl, rfl, trivial⟩
  | n + 1, k, M, N, hO, hP, hk, hkn => by
    refine d_iload dL_same_60 rfl ?_
    refine d_bipush dL_same_62 (by decide) ?_
    refine d_icmp_ge (tgt := 100) dL_same_64 (by decide) (by omega) (by decide) (fun q => absurd trivial (by omega)) (fun q => ?_)
    refine d_iload_n dL_same_67 rfl ?_
    refine d_if_eq (tgt := 100) dL_same_68 (by decide) (by decide) (fun h => absurd h (by decide)) (fun _ => ?_)
    exact sa2 hO hP hi ⟨hk, q⟩ (fun M N hO hP => sl2 hi kx n (k + 1) M N hO hP (by omega) (by omega))

theorem sl3 {G : zG} {g : Int → Nat} {F : dFt} {Qe : State → Prop} {A : Nat → Prop} {b1 b2 : Int} {T : wAb}   (kx : ∀ M N : zM, zO b1 M T → zO b2 N T → dW (smX G g F Qe A) 106 [(2, .inl 1), (0, .inr (some 175)), (1, .inr (some 675))] [] M N) : ∀ (n : Nat) (k : Int) (M N : zM), zO b1 M T → zO b2 N T → 0 ≤ k → k + n = 8 → dW (smX G g F Qe A) 47 [(3, .inl k), (2, .inl 1), (0, .inr (some 175)), (1, .inr (some 675))] [] M N
  | 0, k, M, N, hO, hP, hk, hkn => by
    refine d_iload_n dL_same_47 rfl ?_
    refine d_bipush dL_same_48 (by decide) ?_
    refine d_icmp_ge (tgt := 106) dL_same_50 (by decide) (by omega) (by decide) (fun q => ?_) (fun q => absurd trivial (by omega))
    exact d_sub (kx _ _ hO hP) ⟨rfl, rfl, rfl, trivial⟩
  | n + 1, k, M, N, hO, hP, hk, hkn => by
    refine d_iload_n dL_same_47 rfl ?_
    refine d_bipush dL_same_48 (by decide) ?_
    refine d_icmp_ge (tgt := 106) dL_same_50 (by decide) (by omega) (by decide) (fun q => absurd trivial (by omega)) (fun q => ?_)
    refine d_iload_n dL_same_53 rfl ?_
    refine d_if_eq (tgt := 106) dL_same_54 (by decide) (by decide) (fun h => absurd h (by decide)) (fun _ => ?_)
    refine d_iconst dL_same_57 ?_
    refine d_istore dL_same_58 (Nat.le_of_ble_eq_true rfl) ?_
    refine d_sub (sl2 (i := k) ⟨hk, q⟩ (fun M N hO hP => ?_) 10 0 M N hO hP (by decide) (by decide)) ⟨rfl, rfl, rfl, rfl, rfl, trivial⟩
    refine d_iinc dL_same_100 rfl (Nat.le_of_ble_eq_true rfl) ?_
    refine d_goto (tgt := 47) dL_same_103 (by decide) ?_
    exact d_sub (sl3 kx n (k + 1) M N hO hP (by omega) (by omega)) ⟨rfl, rfl, rfl, rfl, trivial⟩

theorem sa4 {G : zG} {g : Int → Nat} {F : dFt} {Qe : State → Prop} {A : Nat → Prop} {b1 b2 : Int} {T : wAb} {M N : zM} {k : Int} (hO : zO b1 M T) (hP : zO b2 N T) (hk : 0 ≤ k ∧ k < 120) (kk : ∀ M N : zM, zO b1 M T → zO b2 N T → dW (smX G g F Qe A) 108 [(3, .inl (k + 1)), (2, .inl 1), (0, .inr (some 175)), (1, .inr (some 675))] [] M N) : dW (smX G g F Qe A) 118 [(3, .inl k), (2, .inl 1), (0, .inr (some 175)), (1, .inr (some 675))] [] M N := by
  refine d_aload_n dL_same_118 rfl ?_
  refine d_iload_n dL_same_119 rfl ?_
  refine d_bipush dL_same_120 (by decide) ?_
  refine d_irem dL_same_122 (by omega) (by decide) ?_
  refine d_iload_n dL_same_123 rfl ?_
  refine d_bipush dL_same_124 (by decide) ?_
  refine d_idiv dL_same_126 (by omega) (by decide) ?_
  refine d_iconst dL_same_127 ?_
  refine d_callV1 mX4_cell (t_c0 hk hO) (fun v M q => ⟨_, q.1⟩) rfl rfl dL_same_128 kL_52 ⟨Nat.le_of_ble_eq_true rfl, Nat.le_of_ble_eq_true rfl⟩ ⟨Nat.le_of_ble_eq_true rfl, Nat.le_of_ble_eq_true rfl⟩ rfl (by show _ ≤ 8; simp) rfl (fun x128 M128 q128 => ?_)
  obtain ⟨e128, hO⟩ := q128
  cases e128
  refine d_aload_n dL_same_131 rfl ?_
  refine d_iload_n dL_same_132 rfl ?_
  refine d_bipush dL_same_133 (by decide) ?_
  refine d_irem dL_same_135 (by omega) (by decide) ?_
  refine d_iload_n dL_same_136 rfl ?_
  refine d_bipush dL_same_137 (by decide) ?_
  refine d_idiv dL_same_139 (by omega) (by decide) ?_
  refine d_iconst dL_same_140 ?_
  refine d_callV2 mX4_cell (t_c0 hk hP) (fun v M q => ⟨_, q.1⟩) rfl rfl dL_same_141 kL_52 ⟨Nat.le_of_ble_eq_true rfl, Nat.le_of_ble_eq_true rfl⟩ ⟨Nat.le_of_ble_eq_true rfl, Nat.le_of_ble_eq_true rfl⟩ rfl (by show _ ≤ 8; simp) rfl (fun x141 M141 q141 => ?_)
  obtain ⟨e141, hP⟩ := q141
  cases e141
  refine d_same_ne (tgt := 209) dL_same_144 (by decide) ?_
  refine d_aload_n dL_same_147 rfl ?_
  refine d_iload_n dL_same_148 rfl ?_
  refine d_bipush dL_same_149 (by decide) ?_
  refine d_irem dL_same_151 (by omega) (by decide) ?_
  refine d_iload_n dL_same_152 rfl ?_
  refine d_bipush dL_same_153 (by decide) ?_
  refine d_idiv dL_same_155 (by omega) (by decide) ?_
  refine d_iconst dL_same_156 ?_
  refine d_callV1 mX4_cell (t_c1 hk hO) (fun v M q => ⟨_, q.1⟩) rfl rfl dL_same_157 kL_52 ⟨Nat.le_of_ble_eq_true rfl, Nat.le_of_ble_eq_true rfl⟩ ⟨Nat.le_of_ble_eq_true rfl, Nat.le_of_ble_eq_true rfl⟩ rfl (by show _ ≤ 8; simp) rfl (fun x157 M157 q157 => ?_)
  obtain ⟨e157, hO⟩ := q157
  cases e157
  refine d_aload_n dL_same_160 rfl ?_
  refine d_iload_n dL_same_161 rfl ?_
  refine d_bipush dL_same_162 (by decide) ?_
  refine d_irem dL_same_164 (by omega) (by decide) ?_
  refine d_iload_n dL_same_165 rfl ?_
  refine d_bipush dL_same_166 (by decide) ?_
  refine d_idiv dL_same_168 (by omega) (by decide) ?_
  refine d_iconst dL_same_169 ?_
  refine d_callV2 mX4_cell (t_c1 hk hP) (fun v M q => ⟨_, q.1⟩) rfl rfl dL_same_170 kL_52 ⟨Nat.le_of_ble_eq_true rfl, Nat.le_of_ble_eq_true rfl⟩ ⟨Nat.le_of_ble_eq_true rfl, Nat.le_of_ble_eq_true rfl⟩ rfl (by show _ ≤ 8; simp) rfl (fun x170 M170 q170 => ?_)
  obtain ⟨e170, hP⟩ := q170
  cases e170
  refine d_same_ne (tgt := 209) dL_same_173 (by decide) ?_
  refine d_aload_n dL_same_176 rfl ?_
  refine d_iload_n dL_same_177 rfl ?_
  refine d_bipush dL_same_178 (by decide) ?_
  refine d_irem dL_same_180 (by omega) (by decide) ?_
  refine d_iload_n dL_same_181 rfl ?_
  refine d_bipush dL_same_182 (by decide) ?_
  refine d_idiv dL_same_184 (by omega) (by decide) ?_
  refine d_iconst dL_same_185 ?_
  refine d_callV1 mX4_cell (t_c2 hk hO) (fun v M q => ⟨_, q.1⟩) rfl rfl dL_same_186 kL_52 ⟨Nat.le_of_ble_eq_true rfl, Nat.le_of_ble_eq_true rfl⟩ ⟨Nat.le_of_ble_eq_true rfl, Nat.le_of_ble_eq_true rfl⟩ rfl (by show _ ≤ 8; simp) rfl (fun x186 M186 q186 => ?_)
  obtain ⟨e186, hO⟩ := q186
  cases e186
  refine d_aload_n dL_same_189 rfl ?_
  refine d_iload_n dL_same_190 rfl ?_
  refine d_bipush dL_same_191 (by decide) ?_
  refine d_irem dL_same_193 (by omega) (by decide) ?_
  refine d_iload_n dL_same_194 rfl ?_
  refine d_bipush dL_same_195 (by decide) ?_
  refine d_idiv dL_same_197 (by omega) (by decide) ?_
  refine d_iconst dL_same_198 ?_
  refine d_callV2 mX4_cell (t_c2 hk hP) (fun v M q => ⟨_, q.1⟩) rfl rfl dL_same_199 kL_52 ⟨Nat.le_of_ble_eq_true rfl, Nat.le_of_ble_eq_true rfl⟩ ⟨Nat.le_of_ble_eq_true rfl, Nat.le_of_ble_eq_true rfl⟩ rfl (by show _ ≤ 8; simp) rfl (fun x199 M199 q199 => ?_)
  obtain ⟨e199, hP⟩ := q199
  cases e199
  refine d_same_ne (tgt := 209) dL_same_202 (by decide) ?_
  refine d_iconst dL_same_205 ?_
  refine d_goto (tgt := 210) dL_same_206 (by decide) ?_
  refine d_istore_n dL_same_210 (Nat.le_of_ble_eq_true rfl) ?_
  refine d_iinc dL_same_211 rfl (Nat.le_of_ble_eq_true rfl) ?_
  refine d_goto (tgt := 108) dL_same_214 (by decide) ?_
  exact d_sub (kk _ _ hO hP) ⟨rfl, rfl, rfl, rfl, trivial⟩

theorem sl4 {G : zG} {g : Int → Nat} {F : dFt} {Qe : State → Prop} {A : Nat → Prop} {b1 b2 : Int} {T : wAb}   (kx : ∀ M N : zM, zO b1 M T → zO b2 N T → dW (smX G g F Qe A) 217 [(2, .inl 1), (0, .inr (some 175)), (1, .inr (some 675))] [] M N) : ∀ (n : Nat) (k : Int) (M N : zM), zO b1 M T → zO b2 N T → 0 ≤ k → k + n = 120 → dW (smX G g F Qe A) 108 [(3, .inl k), (2, .inl 1), (0, .inr (some 175)), (1, .inr (some 675))] [] M N
  | 0, k, M, N, hO, hP, hk, hkn => by
    refine d_iload_n dL_same_108 rfl ?_
    refine d_bipush dL_same_109 (by decide) ?_
    refine d_icmp_ge (tgt := 217) dL_same_111 (by decide) (by omega) (by decide) (fun q => ?_) (fun q => absurd trivial (by omega))
    exact d_sub (kx _ _ hO hP) ⟨rfl, rfl, rfl, trivial⟩
  | n + 1, k, M, N, hO, hP, hk, hkn => by
    refine d_iload_n dL_same_108 rfl ?_
    refine d_bipush dL_same_109 (by decide) ?_
    refine d_icmp_ge (tgt := 217) dL_same_111 (by decide) (by omega) (by decide) (fun q => absurd trivial (by omega)) (fun q => ?_)
    refine d_iload_n dL_same_114 rfl ?_
    refine d_if_eq (tgt := 217) dL_same_115 (by decide) (by decide) (fun h => absurd h (by decide)) (fun _ => ?_)
    exact sa4 hO hP ⟨hk, q⟩ (fun M N hO hP => sl4 kx n (k + 1) M N hO hP (by omega) (by omega))

theorem sa5 {G : zG} {g : Int → Nat} {F : dFt} {Qe : State → Prop} {A : Nat → Prop} {b1 b2 : Int} {T : wAb} {M N : zM}  (hO : zO b1 M T) (hP : zO b2 N T)  (kk : ∀ M N : zM, zO b1 M T → zO b2 N T → dW (smX G g F Qe A) 252 [] [.inl 1] M N) : dW (smX G g F Qe A) 217 [(2, .inl 1), (0, .inr (some 175)), (1, .inr (some 675))] [] M N := by
  refine d_iload_n dL_same_217 rfl ?_
  refine d_if_eq (tgt := 251) dL_same_218 (by decide) (by decide) (fun h => absurd h (by decide)) (fun _ => ?_)
  refine d_aload_n dL_same_221 rfl ?_
  refine d_iconst dL_same_222 ?_
  refine d_callV1 mX4_stopped (t_stopped (w := 0) (by decide) hO) (fun v M q => ⟨_, q.1⟩) rfl rfl dL_same_223 kL_79 ⟨Nat.le_of_ble_eq_true rfl, Nat.le_of_ble_eq_true rfl⟩ ⟨Nat.le_of_ble_eq_true rfl, Nat.le_of_ble_eq_true rfl⟩ rfl (by show _ ≤ 8; simp) rfl (fun x223 M223 q223 => ?_)
  obtain ⟨e223, hO⟩ := q223
  cases e223
  refine d_aload_n dL_same_226 rfl ?_
  refine d_iconst dL_same_227 ?_
  refine d_callV2 mX4_stopped (t_stopped (w := 0) (by decide) hP) (fun v M q => ⟨_, q.1⟩) rfl rfl dL_same_228 kL_79 ⟨Nat.le_of_ble_eq_true rfl, Nat.le_of_ble_eq_true rfl⟩ ⟨Nat.le_of_ble_eq_true rfl, Nat.le_of_ble_eq_true rfl⟩ rfl (by show _ ≤ 8; simp) rfl (fun x228 M228 q228 => ?_)
  obtain ⟨e228, hP⟩ := q228
  cases e228
  refine d_same_ne (tgt := 251) dL_same_231 (by decide) ?_
  refine d_aload_n dL_same_234 rfl ?_
  refine d_iconst dL_same_235 ?_
  refine d_callV1 mX4_stopped (t_stopped (w := 1) (by decide) hO) (fun v M q => ⟨_, q.1⟩) rfl rfl dL_same_236 kL_79 ⟨Nat.le_of_ble_eq_true rfl, Nat.le_of_ble_eq_true rfl⟩ ⟨Nat.le_of_ble_eq_true rfl, Nat.le_of_ble_eq_true rfl⟩ rfl (by show _ ≤ 8; simp) rfl (fun x236 M236 q236 => ?_)
  obtain ⟨e236, hO⟩ := q236
  cases e236
  refine d_aload_n dL_same_239 rfl ?_
  refine d_iconst dL_same_240 ?_
  refine d_callV2 mX4_stopped (t_stopped (w := 1) (by decide) hP) (fun v M q => ⟨_, q.1⟩) rfl rfl dL_same_241 kL_79 ⟨Nat.le_of_ble_eq_true rfl, Nat.le_of_ble_eq_true rfl⟩ ⟨Nat.le_of_ble_eq_true rfl, Nat.le_of_ble_eq_true rfl⟩ rfl (by show _ ≤ 8; simp) rfl (fun x241 M241 q241 => ?_)
  obtain ⟨e241, hP⟩ := q241
  cases e241
  refine d_same_ne (tgt := 251) dL_same_244 (by decide) ?_
  refine d_iconst dL_same_247 ?_
  refine d_goto (tgt := 252) dL_same_248 (by decide) ?_
  exact d_sub (kk _ _ hO hP) trivial

theorem sa_all {G : zG} {g : Int → Nat} {F : dFt} {Qe : State → Prop} {A : Nat → Prop} {b1 b2 : Int} {T : wAb} {M N : zM} (hO : zO b1 M T) (hP : zO b2 N T) (kk : ∀ M N : zM, zO b1 M T → zO b2 N T → dW (smX G g F Qe A) 252 [] [.inl 1] M N) : dW (smX G g F Qe A) 0 [(0, .inr (some 175)), (1, .inr (some 675))] [] M N := by
  refine d_iconst dL_same_0 ?_
  refine d_istore_n dL_same_1 (Nat.le_of_ble_eq_true rfl) ?_
  refine d_iconst dL_same_2 ?_
  refine d_istore_n dL_same_3 (Nat.le_of_ble_eq_true rfl) ?_
  refine d_sub (sl1 (fun M N hO hP => ?_) 15 0 M N hO hP (by decide) (by decide)) ⟨rfl, rfl, rfl, rfl, trivial⟩
  refine d_iconst dL_same_45 ?_
  refine d_istore_n dL_same_46 (Nat.le_of_ble_eq_true rfl) ?_
  refine d_sub (sl3 (fun M N hO hP => ?_) 8 0 M N hO hP (by decide) (by decide)) ⟨rfl, rfl, rfl, rfl, trivial⟩
  refine d_iconst dL_same_106 ?_
  refine d_istore_n dL_same_107 (Nat.le_of_ble_eq_true rfl) ?_
  refine d_sub (sl4 (fun M N hO hP => ?_) 120 0 M N hO hP (by decide) (by decide)) ⟨rfl, rfl, rfl, rfl, trivial⟩
  exact sa5 hO hP kk
