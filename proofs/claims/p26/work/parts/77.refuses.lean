/-! ===== refuses() ===== -/
theorem eAct {b : Int} {M N : zM} {A : wAb} {τ : zS} {bar r x : Int} {v : Option zV} (h : zO b M A) (hb : bar = x) (hx : x < 0) (ha : zActP M A.1 bar r τ v N) : v = some (.inl x) ∧ zO b N A := by
  rcases ha with ⟨h1, h2, h3⟩ | ⟨h1, h2, h3⟩
  · exact ⟨hb ▸ h2, h.kp h3⟩
  · omega
section ZE
variable {G : zG} {b : Int} {M : zM} {A : wAb} {x : Int}
theorem e_setSnail {lane slime : Int} (hl : -2147483648 ≤ lane ∧ lane < 2147483648) (hs : -2147483648 ≤ slime ∧ slime < 2147483648) (hb : sBarS A.1 lane slime = x) (hx : x < 0) (h : zO b M A) : zCall G yX4_setSnail YX4_setSnail [.inr (some 175), .inl lane, .inl slime] M (fun v M' => v = some (.inl x) ∧ zO b M' A) := (vX4_setSnail hl hs h.p.2.2.2.1 h.p.1 h.p.2.1 h.p.2.2.2.2.1 h.p.2.2.2.2.2).mono (fun v M' q => eAct h hb hx q)
theorem e_setFrost {lane row f : Int} (hl : -2147483648 ≤ lane ∧ lane < 2147483648) (hr : -2147483648 ≤ row ∧ row < 2147483648) (hf : -2147483648 ≤ f ∧ f < 2147483648) (hb : sBarF A.1 lane row f = x) (hx : x < 0) (h : zO b M A) : zCall G yX4_setFrost YX4_setFrost [.inr (some 175), .inl lane, .inl row, .inl f] M (fun v M' => v = some (.inl x) ∧ zO b M' A) := (vX4_setFrost hl hr hf h.p.2.2.2.1 h.p.1 h.p.2.1 h.p.2.2.2.2.1 h.p.2.2.2.2.2).mono (fun v M' q => eAct h hb hx q)
theorem e_set {w y : Int} (hw : -2147483648 ≤ w ∧ w < 2147483648) (hy : -2147483648 ≤ y ∧ y < 2147483648) (hb : sBarSet A.1 w y = x) (hx : x < 0) (h : zO b M A) : zCall G yX4_set YX4_set [.inr (some 175), .inl w, .inl y] M (fun v M' => v = some (.inl x) ∧ zO b M' A) := (vX4_set hw hy h.p.2.2.2.1 h.p.1 h.p.2.1 h.p.2.2.2.2.1 h.p.2.2.2.2.2).mono (fun v M' q => eAct h hb hx q)
theorem e_pass {t : Int} (ht : -2147483648 ≤ t ∧ t < 2147483648) (hb : sBarT A.1 t = x) (hx : x < 0) (h : zO b M A) : zCall G yX4_pass YX4_pass [.inr (some 175), .inl t] M (fun v M' => v = some (.inl x) ∧ zO b M' A) := (vX4_pass ht h.p.2.2.2.1 h.p.1 h.p.2.1 h.p.2.2.2.2.1 h.p.2.2.2.2.2).mono (fun v M' q => eAct h hb hx q)
theorem e_takeOff {k : Int} (hk : -2147483648 ≤ k ∧ k < 2147483648) (hb : sBarO A.1 k = x) (hx : x < 0) (h : zO b M A) : zCall G yX4_takeOff YX4_takeOff [.inr (some 175), .inl k] M (fun v M' => v = some (.inl x) ∧ zO b M' A) := (vX4_takeOff hk h.p.2.2.2.1 h.p.1 h.p.2.1 h.p.2.2.2.2.1 h.p.2.2.2.2.2).mono (fun v M' q => eAct h hb hx q)
theorem pR_0 (T : zS) : pR T 0 0 0 = ((1, 0), 1) := by
  have h0 : pN T 0 0 = -1 := rfl
  have h1 : pT T 0 0 = (1, 0) := by
    unfold pT
    rw [h0, if_neg (by decide), if_neg (by decide), if_neg (by decide)]
  rw [pR_step ⟨by decide, by decide⟩, h1, if_neg (by decide)]
  rfl
theorem e_perform {T : zS} (ht : wTx M T 0) (h : zO b M A) : zCall G yX4_perform YX4_perform [.inr (some 175)] M (fun v M' => v = some (.inl (-100)) ∧ zO b M' A) := by
  obtain ⟨hB, hX, hH, hR, h1, h2⟩ := h.p
  obtain ⟨t1, t2, t3⟩ := h.2.2.2.1
  have e1 := ht.1
  refine (vX4_perform hR hB hX h1 h2 rfl e1 ⟨by decide, fun j p1 p2 => by omega⟩).mono (fun v M' q => ?_)
  unfold zPf at q
  rw [pR_0] at q
  rcases q with ⟨a1, q1, k⟩ | ⟨a1, _⟩ | ⟨a1, _⟩
  · exact ⟨q1, h.kp k⟩
  · exact absurd a1 (by decide)
  · exact absurd a1 (by decide)
end ZE

theorem rfA {G : zG} {Q : Option zV → zM → Prop} {b : Int} {A : wAb} {M : zM} {y : Int} (hO : zO b M A) (hy : 0 ≤ y ∧ y < 100000) (k40 : ∀ N : zM, zO b N A → ∀ no gone : Int, (6 ≤ no ∨ no < 0) → (-100001 < no ∧ no < 200000) → (A.1 535 ≤ gone ∨ gone < 0) → (-100001 < gone ∧ gone < 200000) → zW G YL_refuses Q 40 [(2, .inl no), (3, .inl (A.1 535)), (4, .inl gone), (1, .inl y), (0, .inr (some 175))] [] N) : zW G YL_refuses Q 0 [(1, .inl y), (0, .inr (some 175))] [] M := by
  have hm := zI_m hO.1.2.1.1.1
  have h8 := hO.1.2.1.2.1
  refine z_iload_n dL_refuses_0 rfl ?_
  refine z_iconst dL_refuses_1 ?_
  refine z_irem dL_refuses_2 (by omega) (by decide) ?_
  refine z_if_ne (tgt := 13) dL_refuses_3 (by decide) (by omega) (fun c3 => ?_) (fun c3 => ?_)
  · refine z_iconst dL_refuses_13 ?_
    refine z_iload_n dL_refuses_14 rfl ?_
    refine z_isub dL_refuses_15 ?_
    refine z_istore_n dL_refuses_16 (by decide) ?_
    refine z_aload_n dL_refuses_17 rfl ?_
    refine z_iconst dL_refuses_18 ?_
    refine z_callV mX4_count (t_count (w := 1) (by decide) (by decide) hO) rfl dL_refuses_19 kL_9 (by decide) rfl (by show _ ≤ 8; simp) (by decide) (zsh175) (by decide) rfl (fun v19 M19 q19 => ?_)
    obtain ⟨rfl, hO⟩ := q19
    try simp only [zpush]
    rw [show sCount A.1 A.2.1.1 0 1 = A.1 535 from rfl]
    refine z_istore_n dL_refuses_22 (by decide) ?_
    refine z_iload_n dL_refuses_23 rfl ?_
    refine z_iconst dL_refuses_24 ?_
    refine z_irem dL_refuses_25 (by omega) (by decide) ?_
    refine z_if_ne (tgt := 35) dL_refuses_26 (by decide) (by omega) (fun c26 => ?_) (fun c26 => ?_)
    · refine z_iconst dL_refuses_35 ?_
      refine z_iload_n dL_refuses_36 rfl ?_
      refine z_isub dL_refuses_37 ?_
      refine z_istore dL_refuses_38 (by decide) ?_
      exact zsub' (k40 _ hO _ _ (by omega) (by omega) (by omega) (by omega)) ⟨rfl, rfl, rfl, rfl, rfl, trivial⟩
    · refine z_iload_n dL_refuses_29 rfl ?_
      refine z_iload_n dL_refuses_30 rfl ?_
      refine z_iadd dL_refuses_31 ?_
      refine z_goto (tgt := 38) dL_refuses_32 (by decide) ?_
      refine z_istore dL_refuses_38 (by decide) ?_
      exact zsub' (k40 _ hO _ _ (by omega) (by omega) (by omega) (by omega)) ⟨rfl, rfl, rfl, rfl, rfl, trivial⟩
  · refine z_bipush dL_refuses_6 (by decide) ?_
    refine z_iload_n dL_refuses_8 rfl ?_
    refine z_iadd dL_refuses_9 ?_
    refine z_goto (tgt := 16) dL_refuses_10 (by decide) ?_
    refine z_istore_n dL_refuses_16 (by decide) ?_
    refine z_aload_n dL_refuses_17 rfl ?_
    refine z_iconst dL_refuses_18 ?_
    refine z_callV mX4_count (t_count (w := 1) (by decide) (by decide) hO) rfl dL_refuses_19 kL_9 (by decide) rfl (by show _ ≤ 8; simp) (by decide) (zsh175) (by decide) rfl (fun v19 M19 q19 => ?_)
    obtain ⟨rfl, hO⟩ := q19
    try simp only [zpush]
    rw [show sCount A.1 A.2.1.1 0 1 = A.1 535 from rfl]
    refine z_istore_n dL_refuses_22 (by decide) ?_
    refine z_iload_n dL_refuses_23 rfl ?_
    refine z_iconst dL_refuses_24 ?_
    refine z_irem dL_refuses_25 (by omega) (by decide) ?_
    refine z_if_ne (tgt := 35) dL_refuses_26 (by decide) (by omega) (fun c26 => ?_) (fun c26 => ?_)
    · refine z_iconst dL_refuses_35 ?_
      refine z_iload_n dL_refuses_36 rfl ?_
      refine z_isub dL_refuses_37 ?_
      refine z_istore dL_refuses_38 (by decide) ?_
      exact zsub' (k40 _ hO _ _ (by omega) (by omega) (by omega) (by omega)) ⟨rfl, rfl, rfl, rfl, rfl, trivial⟩
    · refine z_iload_n dL_refuses_29 rfl ?_
      refine z_iload_n dL_refuses_30 rfl ?_
      refine z_iadd dL_refuses_31 ?_
      refine z_goto (tgt := 38) dL_refuses_32 (by decide) ?_
      refine z_istore dL_refuses_38 (by decide) ?_
      exact zsub' (k40 _ hO _ _ (by omega) (by omega) (by omega) (by omega)) ⟨rfl, rfl, rfl, rfl, rfl, trivial⟩

theorem rfB1 {G : zG} {Q : Option zV → zM → Prop} {b : Int} {A : wAb} {M : zM} {y no gone : Int} (hO : zO b M A) (hy : 0 ≤ y ∧ y < 100000) (hn1 : 6 ≤ no ∨ no < 0) (hn2 : -100001 < no ∧ no < 200000) (hg1 : A.1 535 ≤ gone ∨ gone < 0) (hg2 : -100001 < gone ∧ gone < 200000) (kk : ∀ N : zM, zO b N A → zW G YL_refuses Q 151 [(2, .inl no), (3, .inl (A.1 535)), (4, .inl gone), (1, .inl y), (0, .inr (some 175))] [] N) : zW G YL_refuses Q 40 [(2, .inl no), (3, .inl (A.1 535)), (4, .inl gone), (1, .inl y), (0, .inr (some 175))] [] M := by
  have hm := zI_m hO.1.2.1.1.1
  have h8 := hO.1.2.1.2.1
  refine z_aload_n dL_refuses_40 rfl ?_
  refine z_iload_n dL_refuses_41 rfl ?_
  refine z_iconst dL_refuses_42 ?_
  refine z_callV mX4_setSnail (e_setSnail (x := -1) (by omega) (by decide) (by unfold sBarS; rw [if_pos (by omega)]) (by decide) hO) rfl dL_refuses_43 kL_15 (by decide) rfl (by show _ ≤ 8; simp) (by decide) (zsh175) (by decide) rfl (fun v43 M43 q43 => ?_)
  obtain ⟨rfl, hO⟩ := q43
  try simp only [zpush]
  refine z_iconst dL_refuses_46 ?_
  refine z_icmp_ne (tgt := 374) dL_refuses_47 (by decide) (by decide) (by decide) (fun h => absurd h (by decide)) (fun _ => ?_)
  refine z_aload_n dL_refuses_50 rfl ?_
  refine z_iconst dL_refuses_51 ?_
  refine z_bipush dL_refuses_52 (by decide) ?_
  refine z_iload_n dL_refuses_54 rfl ?_
  refine z_iadd dL_refuses_55 ?_
  refine z_callV mX4_setSnail (e_setSnail (x := -2) (by decide) (by omega) (by unfold sBarS; rw [if_neg (by omega), if_pos (by omega)]) (by decide) hO) rfl dL_refuses_56 kL_15 (by decide) rfl (by show _ ≤ 8; simp) (by decide) (zsh175) (by decide) rfl (fun v56 M56 q56 => ?_)
  obtain ⟨rfl, hO⟩ := q56
  try simp only [zpush]
  refine z_bipush dL_refuses_59 (by decide) ?_
  refine z_icmp_ne (tgt := 374) dL_refuses_61 (by decide) (by decide) (by decide) (fun h => absurd h (by decide)) (fun _ => ?_)
  refine z_aload_n dL_refuses_64 rfl ?_
  refine z_iload dL_refuses_65 rfl ?_
  refine z_callV mX4_takeOff (e_takeOff (x := -1) (by omega) (by unfold sBarO; rw [if_pos (by omega)]) (by decide) hO) rfl dL_refuses_67 kL_19 (by decide) rfl (by show _ ≤ 8; simp) (by decide) (zsh175) (by decide) rfl (fun v67 M67 q67 => ?_)
  obtain ⟨rfl, hO⟩ := q67
  try simp only [zpush]
  refine z_iconst dL_refuses_70 ?_
  refine z_icmp_ne (tgt := 374) dL_refuses_71 (by decide) (by decide) (by decide) (fun h => absurd h (by decide)) (fun _ => ?_)
  refine z_aload_n dL_refuses_74 rfl ?_
  refine z_iload_n dL_refuses_75 rfl ?_
  refine z_iconst dL_refuses_76 ?_
  refine z_iconst dL_refuses_77 ?_
  refine z_callV mX4_setFrost (e_setFrost (x := -1) (by omega) (by decide) (by decide) (by unfold sBarF; rw [if_pos (by omega)]) (by decide) hO) rfl dL_refuses_78 kL_22 (by decide) rfl (by show _ ≤ 8; simp) (by decide) (zsh175) (by decide) rfl (fun v78 M78 q78 => ?_)
  obtain ⟨rfl, hO⟩ := q78
  try simp only [zpush]
  refine z_iconst dL_refuses_81 ?_
  refine z_icmp_ne (tgt := 374) dL_refuses_82 (by decide) (by decide) (by decide) (fun h => absurd h (by decide)) (fun _ => ?_)
  refine z_aload_n dL_refuses_85 rfl ?_
  refine z_iconst dL_refuses_86 ?_
  refine z_bipush dL_refuses_87 (by decide) ?_
  refine z_iload_n dL_refuses_89 rfl ?_
  refine z_iadd dL_refuses_90 ?_
  refine z_iconst dL_refuses_91 ?_
  refine z_callV mX4_setFrost (e_setFrost (x := -1) (by decide) (by omega) (by decide) (by unfold sBarF; rw [if_pos (by omega)]) (by decide) hO) rfl dL_refuses_92 kL_22 (by decide) rfl (by show _ ≤ 8; simp) (by decide) (zsh175) (by decide) rfl (fun v92 M92 q92 => ?_)
  obtain ⟨rfl, hO⟩ := q92
  try simp only [zpush]
  refine z_iconst dL_refuses_95 ?_
  refine z_icmp_ne (tgt := 374) dL_refuses_96 (by decide) (by decide) (by decide) (fun h => absurd h (by decide)) (fun _ => ?_)
  refine z_aload_n dL_refuses_99 rfl ?_
  refine z_iconst dL_refuses_100 ?_
  refine z_iconst dL_refuses_101 ?_
  refine z_bipush dL_refuses_102 (by decide) ?_
  refine z_iload_n dL_refuses_104 rfl ?_
  refine z_iadd dL_refuses_105 ?_
  refine z_callV mX4_setFrost (e_setFrost (x := -2) (by decide) (by decide) (by omega) (by unfold sBarF; rw [if_neg (by omega), if_pos (by omega)]) (by decide) hO) rfl dL_refuses_106 kL_22 (by decide) rfl (by show _ ≤ 8; simp) (by decide) (zsh175) (by decide) rfl (fun v106 M106 q106 => ?_)
  obtain ⟨rfl, hO⟩ := q106
  try simp only [zpush]
  refine z_bipush dL_refuses_109 (by decide) ?_
  refine z_icmp_ne (tgt := 374) dL_refuses_111 (by decide) (by decide) (by decide) (fun h => absurd h (by decide)) (fun _ => ?_)
  refine z_aload_n dL_refuses_114 rfl ?_
  refine z_iconst dL_refuses_115 ?_
  refine z_iload_n dL_refuses_116 rfl ?_
  refine z_iadd dL_refuses_117 ?_
  refine z_iconst dL_refuses_118 ?_
  refine z_callV mX4_set (e_set (x := -1) (by omega) (by decide) (by unfold sBarSet; rw [if_pos (by omega)]) (by decide) hO) rfl dL_refuses_119 kL_26 (by decide) rfl (by show _ ≤ 8; simp) (by decide) (zsh175) (by decide) rfl (fun v119 M119 q119 => ?_)
  obtain ⟨rfl, hO⟩ := q119
  try simp only [zpush]
  refine z_iconst dL_refuses_122 ?_
  refine z_icmp_ne (tgt := 374) dL_refuses_123 (by decide) (by decide) (by decide) (fun h => absurd h (by decide)) (fun _ => ?_)
  refine z_aload_n dL_refuses_126 rfl ?_
  refine z_iconst dL_refuses_127 ?_
  refine z_bipush dL_refuses_128 (by decide) ?_
  refine z_iload_n dL_refuses_130 rfl ?_
  refine z_iadd dL_refuses_131 ?_
  refine z_callV mX4_set (e_set (x := -2) (by decide) (by omega) (by unfold sBarSet sMost; rw [if_neg (by decide), if_pos (by rw [if_pos rfl, if_pos rfl]; omega)]) (by decide) hO) rfl dL_refuses_132 kL_26 (by decide) rfl (by show _ ≤ 8; simp) (by decide) (zsh175) (by decide) rfl (fun v132 M132 q132 => ?_)
  obtain ⟨rfl, hO⟩ := q132
  try simp only [zpush]
  refine z_bipush dL_refuses_135 (by decide) ?_
  refine z_icmp_ne (tgt := 374) dL_refuses_137 (by decide) (by decide) (by decide) (fun h => absurd h (by decide)) (fun _ => ?_)
  refine z_aload_n dL_refuses_140 rfl ?_
  refine z_iconst dL_refuses_141 ?_
  refine z_iconst dL_refuses_142 ?_
  refine z_callV mX4_set (e_set (x := -2) (by decide) (by decide) (by unfold sBarSet; rw [if_neg (by decide), if_pos (by rw [if_neg (by decide)]; omega)]) (by decide) hO) rfl dL_refuses_143 kL_26 (by decide) rfl (by show _ ≤ 8; simp) (by decide) (zsh175) (by decide) rfl (fun v143 M143 q143 => ?_)
  obtain ⟨rfl, hO⟩ := q143
  try simp only [zpush]
  refine z_bipush dL_refuses_146 (by decide) ?_
  refine z_icmp_ne (tgt := 374) dL_refuses_148 (by decide) (by decide) (by decide) (fun h => absurd h (by decide)) (fun _ => ?_)
  exact zsub' (kk _ hO) ⟨rfl, rfl, rfl, rfl, rfl, trivial⟩

theorem rfB2 {G : zG} {Q : Option zV → zM → Prop} {b : Int} {A : wAb} {M : zM} {y no gone : Int} (hO : zO b M A) (hy : 0 ≤ y ∧ y < 100000) (hn1 : 6 ≤ no ∨ no < 0) (hn2 : -100001 < no ∧ no < 200000) (hg1 : A.1 535 ≤ gone ∨ gone < 0) (hg2 : -100001 < gone ∧ gone < 200000) (kk : ∀ N : zM, zO b N A → zW G YL_refuses Q 259 [(2, .inl no), (3, .inl (A.1 535)), (4, .inl gone), (1, .inl y), (0, .inr (some 175))] [] N) : zW G YL_refuses Q 151 [(2, .inl no), (3, .inl (A.1 535)), (4, .inl gone), (1, .inl y), (0, .inr (some 175))] [] M := by
  have hm := zI_m hO.1.2.1.1.1
  have h8 := hO.1.2.1.2.1
  refine z_aload_n dL_refuses_151 rfl ?_
  refine z_iconst dL_refuses_152 ?_
  refine z_aload_n dL_refuses_153 rfl ?_
  refine z_bipush dL_refuses_154 (by decide) ?_
  refine z_callV mX4_count (t_count (w := 11) (by decide) (by decide) hO) rfl dL_refuses_156 kL_9 (by decide) rfl (by show _ ≤ 8; simp) (by decide) (zsh175) (by decide) rfl (fun v156 M156 q156 => ?_)
  obtain ⟨rfl, hO⟩ := q156
  try simp only [zpush]
  rw [show sCount A.1 A.2.1.1 0 11 = A.1 533 from rfl]
  have hs9 := hO.1.2.1.1.1.1
  unfold zIs at hs9
  refine z_callV mX4_set (e_set (x := -5) (by decide) (by omega) (by unfold sBarSet sMost; rw [if_neg (by decide), if_neg (by rw [if_neg (by decide), if_neg (by decide), if_neg (by decide), if_pos rfl]; omega), if_pos (show A.1 (531 + 2) = A.1 533 from rfl)]) (by decide) hO) rfl dL_refuses_159 kL_26 (by decide) rfl (by show _ ≤ 8; simp) (by decide) (zsh175) (by decide) rfl (fun v159 M159 q159 => ?_)
  obtain ⟨rfl, hO⟩ := q159
  try simp only [zpush]
  refine z_bipush dL_refuses_162 (by decide) ?_
  refine z_icmp_ne (tgt := 374) dL_refuses_164 (by decide) (by decide) (by decide) (fun h => absurd h (by decide)) (fun _ => ?_)
  refine z_aload_n dL_refuses_167 rfl ?_
  refine z_iconst dL_refuses_168 ?_
  refine z_callV mX4_pass (e_pass (x := -2) (by decide) (by unfold sBarT; rw [if_pos (by decide)]) (by decide) hO) rfl dL_refuses_169 kL_49 (by decide) rfl (by show _ ≤ 8; simp) (by decide) (zsh175) (by decide) rfl (fun v169 M169 q169 => ?_)
  obtain ⟨rfl, hO⟩ := q169
  try simp only [zpush]
  refine z_bipush dL_refuses_172 (by decide) ?_
  refine z_icmp_ne (tgt := 374) dL_refuses_174 (by decide) (by decide) (by decide) (fun h => absurd h (by decide)) (fun _ => ?_)
  refine z_aload_n dL_refuses_177 rfl ?_
  refine z_bipush dL_refuses_178 (by decide) ?_
  refine z_iload_n dL_refuses_180 rfl ?_
  refine z_iadd dL_refuses_181 ?_
  refine z_callV mX4_pass (e_pass (x := -2) (by omega) (by unfold sBarT; rw [if_pos (by omega)]) (by decide) hO) rfl dL_refuses_182 kL_49 (by decide) rfl (by show _ ≤ 8; simp) (by decide) (zsh175) (by decide) rfl (fun v182 M182 q182 => ?_)
  obtain ⟨rfl, hO⟩ := q182
  try simp only [zpush]
  refine z_bipush dL_refuses_185 (by decide) ?_
  refine z_icmp_ne (tgt := 374) dL_refuses_187 (by decide) (by decide) (by decide) (fun h => absurd h (by decide)) (fun _ => ?_)
  refine z_aload_n dL_refuses_190 rfl ?_
  refine z_iconst dL_refuses_191 ?_
  refine z_iload_n dL_refuses_192 rfl ?_
  refine z_iadd dL_refuses_193 ?_
  refine z_callV mX4_stopped (t_stopped (by omega) hO) rfl dL_refuses_194 kL_79 (by decide) rfl (by show _ ≤ 8; simp) (by decide) (zsh175) (by decide) rfl (fun v194 M194 q194 => ?_)
  obtain ⟨rfl, hO⟩ := q194
  try simp only [zpush]
  rw [if_neg (by omega), if_neg (by omega)]
  refine z_bipush dL_refuses_197 (by decide) ?_
  refine z_icmp_ne (tgt := 374) dL_refuses_199 (by decide) (by decide) (by decide) (fun h => absurd h (by decide)) (fun _ => ?_)
  refine z_aload_n dL_refuses_202 rfl ?_
  refine z_iload dL_refuses_203 rfl ?_
  refine z_iconst dL_refuses_205 ?_
  refine z_callV mX4_snail (t_snail (by omega) (by decide) hO) rfl dL_refuses_206 kL_55 (by decide) rfl (by show _ ≤ 8; simp) (by decide) (zsh175) (by decide) rfl (fun v206 M206 q206 => ?_)
  obtain ⟨rfl, hO⟩ := q206
  try simp only [zpush]
  rw [show sSnail A.1 gone 0 = -1 from (by unfold sSnail; rw [if_pos (by omega)])]
  refine z_iconst dL_refuses_209 ?_
  refine z_icmp_ne (tgt := 374) dL_refuses_210 (by decide) (by decide) (by decide) (fun h => absurd h (by decide)) (fun _ => ?_)
  refine z_aload_n dL_refuses_213 rfl ?_
  refine z_iload_n dL_refuses_214 rfl ?_
  refine z_iconst dL_refuses_215 ?_
  refine z_iconst dL_refuses_216 ?_
  refine z_callV mX4_cell (t_cell (by omega) (by decide) (by decide) hO) rfl dL_refuses_217 kL_52 (by decide) rfl (by show _ ≤ 8; simp) (by decide) (zsh175) (by decide) rfl (fun v217 M217 q217 => ?_)
  obtain ⟨rfl, hO⟩ := q217
  try simp only [zpush]
  rw [show sCell A.1 no 0 0 = -1 from (by unfold sCell; rw [if_pos (by omega)])]
  refine z_iconst dL_refuses_220 ?_
  refine z_icmp_ne (tgt := 374) dL_refuses_221 (by decide) (by decide) (by decide) (fun h => absurd h (by decide)) (fun _ => ?_)
  refine z_aload_n dL_refuses_224 rfl ?_
  refine z_iconst dL_refuses_225 ?_
  refine z_iconst dL_refuses_226 ?_
  refine z_iconst dL_refuses_227 ?_
  refine z_iload_n dL_refuses_228 rfl ?_
  refine z_iadd dL_refuses_229 ?_
  refine z_callV mX4_cell (t_cell (by decide) (by decide) (by omega) hO) rfl dL_refuses_230 kL_52 (by decide) rfl (by show _ ≤ 8; simp) (by decide) (zsh175) (by decide) rfl (fun v230 M230 q230 => ?_)
  obtain ⟨rfl, hO⟩ := q230
  try simp only [zpush]
  rw [show sCell A.1 0 0 (4 + y) = -2 from (by unfold sCell; rw [if_neg (by decide), if_neg (by omega), if_neg (by omega), if_neg (by omega), if_neg (by omega)])]
  refine z_bipush dL_refuses_233 (by decide) ?_
  refine z_icmp_ne (tgt := 374) dL_refuses_235 (by decide) (by decide) (by decide) (fun h => absurd h (by decide)) (fun _ => ?_)
  refine z_aload_n dL_refuses_238 rfl ?_
  refine z_iload dL_refuses_239 rfl ?_
  refine z_iconst dL_refuses_241 ?_
  refine z_callV mX4_cost (t_cost (by omega) (by decide) hO) rfl dL_refuses_242 kL_67 (by decide) rfl (by show _ ≤ 8; simp) (by decide) (zsh175) (by decide) rfl (fun v242 M242 q242 => ?_)
  obtain ⟨rfl, hO⟩ := q242
  try simp only [zpush]
  rw [show sCost A.1 gone 0 = -1 from (by unfold sCost; rw [if_pos (by omega)])]
  refine z_iconst dL_refuses_245 ?_
  refine z_icmp_ne (tgt := 374) dL_refuses_246 (by decide) (by decide) (by decide) (fun h => absurd h (by decide)) (fun _ => ?_)
  refine z_aload_n dL_refuses_249 rfl ?_
  refine z_iload dL_refuses_250 rfl ?_
  refine z_callV mX4_does (t_does (by omega) hO) rfl dL_refuses_252 kL_61 (by decide) rfl (by show _ ≤ 8; simp) (by decide) (zsh175) (by decide) rfl (fun v252 M252 q252 => ?_)
  obtain ⟨rfl, hO⟩ := q252
  try simp only [zpush]
  rw [show sDoes A.1 gone = -1 from (by unfold sDoes; rw [if_pos (by omega)])]
  refine z_iconst dL_refuses_255 ?_
  refine z_icmp_ne (tgt := 374) dL_refuses_256 (by decide) (by decide) (by decide) (fun h => absurd h (by decide)) (fun _ => ?_)
  exact zsub' (kk _ hO) ⟨rfl, rfl, rfl, rfl, rfl, trivial⟩

theorem rfB3 {G : zG} {Q : Option zV → zM → Prop} {b : Int} {A : wAb} {M : zM} {y no gone : Int} (hO : zO b M A) (hy : 0 ≤ y ∧ y < 100000) (hn1 : 6 ≤ no ∨ no < 0) (hn2 : -100001 < no ∧ no < 200000) (hg1 : A.1 535 ≤ gone ∨ gone < 0) (hg2 : -100001 < gone ∧ gone < 200000) (kk : ∀ N : zM, zO b N A → zW G YL_refuses Q 377 [(5, .inl 1), (2, .inl no), (3, .inl (A.1 535)), (4, .inl gone), (1, .inl y), (0, .inr (some 175))] [] N) : zW G YL_refuses Q 259 [(2, .inl no), (3, .inl (A.1 535)), (4, .inl gone), (1, .inl y), (0, .inr (some 175))] [] M := by
  have hm := zI_m hO.1.2.1.1.1
  have h8 := hO.1.2.1.2.1
  refine z_aload_n dL_refuses_259 rfl ?_
  refine z_iload dL_refuses_260 rfl ?_
  refine z_iconst dL_refuses_262 ?_
  refine z_iconst dL_refuses_263 ?_
  refine z_callV mX4_reason (t_reason (by omega) (by decide) (by decide) hO) rfl dL_refuses_264 kL_82 (by decide) rfl (by show _ ≤ 8; simp) (by decide) (zsh175) (by decide) rfl (fun v264 M264 q264 => ?_)
  obtain ⟨rfl, hO⟩ := q264
  try simp only [zpush]
  rw [show sReason A.1 gone 0 0 = -1 from (by unfold sReason; rw [if_pos (by omega)])]
  refine z_iconst dL_refuses_267 ?_
  refine z_icmp_ne (tgt := 374) dL_refuses_268 (by decide) (by decide) (by decide) (fun h => absurd h (by decide)) (fun _ => ?_)
  refine z_aload_n dL_refuses_271 rfl ?_
  refine z_iload dL_refuses_272 rfl ?_
  refine z_callV mX4_endsIn (t_endsIn (by omega) hO) rfl dL_refuses_274 kL_70 (by decide) rfl (by show _ ≤ 8; simp) (by decide) (zsh175) (by decide) rfl (fun v274 M274 q274 => ?_)
  obtain ⟨rfl, hO⟩ := q274
  try simp only [zpush]
  rw [show sEndsIn A.1 gone = -1 from (by unfold sEndsIn; rw [if_pos (by omega)])]
  refine z_iconst dL_refuses_277 ?_
  refine z_icmp_ne (tgt := 374) dL_refuses_278 (by decide) (by decide) (by decide) (fun h => absurd h (by decide)) (fun _ => ?_)
  refine z_aload_n dL_refuses_281 rfl ?_
  refine z_iload_n dL_refuses_282 rfl ?_
  refine z_iconst dL_refuses_283 ?_
  refine z_iconst dL_refuses_284 ?_
  refine z_callV mX4_wayUp (t_wayUp (by omega) (by decide) (by decide) hO) rfl dL_refuses_285 kL_58 (by decide) rfl (by show _ ≤ 8; simp) (by decide) (zsh175) (by decide) rfl (fun v285 M285 q285 => ?_)
  obtain ⟨rfl, hO⟩ := q285
  try simp only [zpush]
  rw [show sWay A.1 no 0 0 = -1 from (by unfold sWay; rw [if_pos (by omega)])]
  refine z_iconst dL_refuses_288 ?_
  refine z_icmp_ne (tgt := 374) dL_refuses_289 (by decide) (by decide) (by decide) (fun h => absurd h (by decide)) (fun _ => ?_)
  refine z_aload_n dL_refuses_292 rfl ?_
  refine z_iconst dL_refuses_293 ?_
  refine z_iconst dL_refuses_294 ?_
  refine z_iconst dL_refuses_295 ?_
  refine z_iload_n dL_refuses_296 rfl ?_
  refine z_iadd dL_refuses_297 ?_
  refine z_callV mX4_wayUp (t_wayUp (by decide) (by decide) (by omega) hO) rfl dL_refuses_298 kL_58 (by decide) rfl (by show _ ≤ 8; simp) (by decide) (zsh175) (by decide) rfl (fun v298 M298 q298 => ?_)
  obtain ⟨rfl, hO⟩ := q298
  try simp only [zpush]
  rw [show sWay A.1 0 0 (2 + y) = -2 from (by unfold sWay; rw [if_neg (by omega), if_pos (by omega)])]
  refine z_bipush dL_refuses_301 (by decide) ?_
  refine z_icmp_ne (tgt := 374) dL_refuses_303 (by decide) (by decide) (by decide) (fun h => absurd h (by decide)) (fun _ => ?_)
  refine z_aload_n dL_refuses_306 rfl ?_
  refine z_iload dL_refuses_307 rfl ?_
  refine z_iload dL_refuses_309 rfl ?_
  refine z_callV mX4_owes (t_owes (by omega) (by omega) hO) rfl dL_refuses_311 kL_64 (by decide) rfl (by show _ ≤ 8; simp) (by decide) (zsh175) (by decide) rfl (fun v311 M311 q311 => ?_)
  obtain ⟨rfl, hO⟩ := q311
  try simp only [zpush]
  rw [show sOwes A.1 gone gone = -1 from (by unfold sOwes; rw [if_pos (by omega)])]
  refine z_iconst dL_refuses_314 ?_
  refine z_icmp_ne (tgt := 374) dL_refuses_315 (by decide) (by decide) (by decide) (fun h => absurd h (by decide)) (fun _ => ?_)
  refine z_aload_n dL_refuses_318 rfl ?_
  refine z_bipush dL_refuses_319 (by decide) ?_
  refine z_iload_n dL_refuses_321 rfl ?_
  refine z_iadd dL_refuses_322 ?_
  refine z_iconst dL_refuses_323 ?_
  refine z_callV mX4_bestLane (t_bestLane (by omega) (by decide) hO) rfl dL_refuses_324 kL_76 (by decide) rfl (by show _ ≤ 8; simp) (by decide) (zsh175) (by decide) rfl (fun v324 M324 q324 => ?_)
  obtain ⟨rfl, hO⟩ := q324
  try simp only [zpush]
  rw [show sBestLane A.1 (100 + y) 0 = -2 from (by unfold sBestLane; rw [if_pos (by omega)])]
  refine z_bipush dL_refuses_327 (by decide) ?_
  refine z_icmp_ne (tgt := 374) dL_refuses_329 (by decide) (by decide) (by decide) (fun h => absurd h (by decide)) (fun _ => ?_)
  refine z_aload_n dL_refuses_332 rfl ?_
  refine z_iconst dL_refuses_333 ?_
  refine z_iconst dL_refuses_334 ?_
  refine z_iload_n dL_refuses_335 rfl ?_
  refine z_iadd dL_refuses_336 ?_
  refine z_callV mX4_bestLane (t_bestLane (by decide) (by omega) hO) rfl dL_refuses_337 kL_76 (by decide) rfl (by show _ ≤ 8; simp) (by decide) (zsh175) (by decide) rfl (fun v337 M337 q337 => ?_)
  obtain ⟨rfl, hO⟩ := q337
  try simp only [zpush]
  rw [show sBestLane A.1 0 (2 + y) = -2 from (by unfold sBestLane; rw [if_pos (by omega)])]
  refine z_bipush dL_refuses_340 (by decide) ?_
  refine z_icmp_ne (tgt := 374) dL_refuses_342 (by decide) (by decide) (by decide) (fun h => absurd h (by decide)) (fun _ => ?_)
  refine z_aload_n dL_refuses_345 rfl ?_
  refine z_bipush dL_refuses_346 (by decide) ?_
  refine z_iload_n dL_refuses_348 rfl ?_
  refine z_iadd dL_refuses_349 ?_
  refine z_callV mX4_count (t_count (by omega) (by omega) hO) rfl dL_refuses_350 kL_9 (by decide) rfl (by show _ ≤ 8; simp) (by decide) (zsh175) (by decide) rfl (fun v350 M350 q350 => ?_)
  obtain ⟨rfl, hO⟩ := q350
  try simp only [zpush]
  rw [show sCount A.1 A.2.1.1 0 (15 + y) = -2 from (by unfold sCount; rw [if_neg (by omega), if_neg (by omega), if_neg (by omega), if_neg (by omega), if_neg (by omega), if_neg (by omega), if_neg (by omega), if_neg (by omega), if_neg (by omega), if_neg (by omega), if_neg (by omega), if_neg (by omega)])]
  refine z_bipush dL_refuses_353 (by decide) ?_
  refine z_icmp_ne (tgt := 374) dL_refuses_355 (by decide) (by decide) (by decide) (fun h => absurd h (by decide)) (fun _ => ?_)
  refine z_aload_n dL_refuses_358 rfl ?_
  refine z_iconst dL_refuses_359 ?_
  refine z_iload_n dL_refuses_360 rfl ?_
  refine z_isub dL_refuses_361 ?_
  refine z_callV mX4_count (t_count (by omega) (by omega) hO) rfl dL_refuses_362 kL_9 (by decide) rfl (by show _ ≤ 8; simp) (by decide) (zsh175) (by decide) rfl (fun v362 M362 q362 => ?_)
  obtain ⟨rfl, hO⟩ := q362
  try simp only [zpush]
  rw [show sCount A.1 A.2.1.1 0 (-1 - y) = -2 from (by unfold sCount; rw [if_neg (by omega), if_neg (by omega), if_neg (by omega), if_neg (by omega), if_neg (by omega), if_neg (by omega), if_neg (by omega), if_neg (by omega), if_neg (by omega), if_neg (by omega), if_neg (by omega), if_neg (by omega)])]
  refine z_bipush dL_refuses_365 (by decide) ?_
  refine z_icmp_ne (tgt := 374) dL_refuses_367 (by decide) (by decide) (by decide) (fun h => absurd h (by decide)) (fun _ => ?_)
  refine z_iconst dL_refuses_370 ?_
  refine z_goto (tgt := 375) dL_refuses_371 (by decide) ?_
  refine z_istore dL_refuses_375 (by decide) ?_
  exact zsub' (kk _ hO) ⟨rfl, rfl, rfl, rfl, rfl, rfl, trivial⟩

theorem rfC {G : zG} {b : Int} {A : wAb} {M : zM} {y no gone : Int} (hO : zO b M A) (hy : 0 ≤ y ∧ y < 100000) (hn1 : 6 ≤ no ∨ no < 0) (hn2 : -100001 < no ∧ no < 200000) (hg1 : A.1 535 ≤ gone ∨ gone < 0) (hg2 : -100001 < gone ∧ gone < 200000) : zW G YL_refuses (fun v N => v = some (.inl 1) ∧ zO b N A) 377 [(5, .inl 1), (2, .inl no), (3, .inl (A.1 535)), (4, .inl gone), (1, .inl y), (0, .inr (some 175))] [] M := by
  have hm := zI_m hO.1.2.1.1.1
  have h8 := hO.1.2.1.2.1
  have h239 : A.1 239 = 0 := hO.1.2.2.2.1.2.2.2 119 (by decide) (by decide)
  have h119 := hO.1.2.1.1.1.2.1 119 (by decide) (by decide)
  unfold zIc at h119
  refine z_aload_n dL_refuses_377 rfl ?_
  refine z_callV mX4_clearText (a_clearText hO) rfl dL_refuses_378 kL_39 (by decide) rfl (by show _ ≤ 8; simp) (by decide) (zsh175) (by decide) rfl (fun v378 M378 q378 => ?_)
  obtain ⟨had, hh, rfl, hO, ht⟩ := q378
  try simp only [zpush]
  refine z_istore dL_refuses_381 (by decide) ?_
  refine z_iload dL_refuses_383 rfl ?_
  refine z_if_eq (tgt := 481) dL_refuses_385 (by decide) (by decide) (fun h => absurd h (by decide)) (fun _ => ?_)
  refine z_iload dL_refuses_388 rfl ?_
  refine z_if_lt (tgt := 481) dL_refuses_390 (by decide) (by omega) (fun c390 => ?_) (fun c390 => ?_)
  · exact absurd trivial (by omega)
  · refine z_aload_n dL_refuses_393 rfl ?_
    refine z_callV mX4_perform (e_perform ht hO) rfl dL_refuses_394 kL_46 (by decide) rfl (by show _ ≤ 8; simp) (by decide) (zsh175) (by decide) rfl (fun v394 M394 q394 => ?_)
    obtain ⟨rfl, hO⟩ := q394
    try simp only [zpush]
    refine z_bipush dL_refuses_397 (by decide) ?_
    refine z_icmp_ne (tgt := 481) dL_refuses_399 (by decide) (by decide) (by decide) (fun h => absurd h (by decide)) (fun _ => ?_)
    refine z_iload_n dL_refuses_402 rfl ?_
    refine z_if_eq (tgt := 444) dL_refuses_403 (by decide) (by omega) (fun c403 => ?_) (fun c403 => ?_)
    · refine z_aload_n dL_refuses_444 rfl ?_
      refine z_iconst dL_refuses_445 ?_
      refine z_bipush dL_refuses_446 (by decide) ?_
      refine z_iconst dL_refuses_448 ?_
      refine z_callV mX4_cell (t_cell (by decide) (by decide) (by decide) hO) rfl dL_refuses_449 kL_52 (by decide) rfl (by show _ ≤ 8; simp) (by decide) (zsh175) (by decide) rfl (fun v449 M449 q449 => ?_)
      obtain ⟨rfl, hO⟩ := q449
      try simp only [zpush]
      rw [show sCell A.1 5 19 1 = -5 from (by unfold sCell; rw [if_neg (by decide), if_neg (by decide), if_pos rfl, if_pos (show A.1 (120 + (6 * 19 + 5)) = 0 from h239)])]
      refine z_bipush dL_refuses_452 (by decide) ?_
      refine z_icmp_ne (tgt := 477) dL_refuses_454 (by decide) (by decide) (by decide) (fun h => absurd h (by decide)) (fun _ => ?_)
      refine z_aload_n dL_refuses_457 rfl ?_
      refine z_iconst dL_refuses_458 ?_
      refine z_bipush dL_refuses_459 (by decide) ?_
      refine z_aload_n dL_refuses_461 rfl ?_
      refine z_iconst dL_refuses_462 ?_
      refine z_bipush dL_refuses_463 (by decide) ?_
      refine z_iconst dL_refuses_465 ?_
      refine z_callV mX4_cell (t_cell (by decide) (by decide) (by decide) hO) rfl dL_refuses_466 kL_52 (by decide) rfl (by show _ ≤ 8; simp) (by decide) (zsh175) (by decide) rfl (fun v466 M466 q466 => ?_)
      obtain ⟨rfl, hO⟩ := q466
      try simp only [zpush]
      rw [show sCell A.1 5 19 0 = A.1 119 from by unfold sCell; rw [if_neg (by decide), if_pos rfl]; rfl]
      refine z_callV mX4_setFrost (e_setFrost (x := -5) (by decide) (by decide) (by omega) (by unfold sBarF; rw [if_neg (by decide), if_neg (by omega), if_pos ⟨rfl, h239⟩]) (by decide) hO) rfl dL_refuses_469 kL_22 (by decide) rfl (by show _ ≤ 8; simp) (by decide) (zsh175) (by decide) rfl (fun v469 M469 q469 => ?_)
      obtain ⟨rfl, hO⟩ := q469
      try simp only [zpush]
      refine z_bipush dL_refuses_472 (by decide) ?_
      refine z_icmp_ne (tgt := 481) dL_refuses_474 (by decide) (by decide) (by decide) (fun h => absurd h (by decide)) (fun _ => ?_)
      refine z_iconst dL_refuses_477 ?_
      refine z_goto (tgt := 482) dL_refuses_478 (by decide) ?_
      refine z_zret dL_refuses_482 rfl (Or.inr rfl) ?_
      exact ⟨rfl, hO⟩
    · refine z_aload_n dL_refuses_406 rfl ?_
      refine z_iconst dL_refuses_407 ?_
      refine z_bipush dL_refuses_408 (by decide) ?_
      refine z_iload_n dL_refuses_410 rfl ?_
      refine z_iadd dL_refuses_411 ?_
      refine z_callV mX4_snail (t_snail (by decide) (by omega) hO) rfl dL_refuses_412 kL_55 (by decide) rfl (by show _ ≤ 8; simp) (by decide) (zsh175) (by decide) rfl (fun v412 M412 q412 => ?_)
      obtain ⟨rfl, hO⟩ := q412
      try simp only [zpush]
      rw [show sSnail A.1 0 (10 + y) = -2 from (by unfold sSnail; rw [if_neg (by omega), if_pos (by omega)])]
      refine z_bipush dL_refuses_415 (by decide) ?_
      refine z_icmp_ne (tgt := 481) dL_refuses_417 (by decide) (by decide) (by decide) (fun h => absurd h (by decide)) (fun _ => ?_)
      refine z_aload_n dL_refuses_420 rfl ?_
      refine z_iconst dL_refuses_421 ?_
      refine z_iconst dL_refuses_422 ?_
      refine z_iload_n dL_refuses_423 rfl ?_
      refine z_iadd dL_refuses_424 ?_
      refine z_callV mX4_cost (t_cost (by decide) (by omega) hO) rfl dL_refuses_425 kL_67 (by decide) rfl (by show _ ≤ 8; simp) (by decide) (zsh175) (by decide) rfl (fun v425 M425 q425 => ?_)
      obtain ⟨rfl, hO⟩ := q425
      try simp only [zpush]
      rw [show sCost A.1 0 (3 + y) = -2 from (by unfold sCost; rw [if_neg (by omega), if_pos (by omega)])]
      refine z_bipush dL_refuses_428 (by decide) ?_
      refine z_icmp_ne (tgt := 481) dL_refuses_430 (by decide) (by decide) (by decide) (fun h => absurd h (by decide)) (fun _ => ?_)
      refine z_aload_n dL_refuses_433 rfl ?_
      refine z_iconst dL_refuses_434 ?_
      refine z_iload_n dL_refuses_435 rfl ?_
      refine z_iconst dL_refuses_436 ?_
      refine z_callV mX4_reason (t_reason (by decide) (by omega) (by decide) hO) rfl dL_refuses_437 kL_82 (by decide) rfl (by show _ ≤ 8; simp) (by decide) (zsh175) (by decide) rfl (fun v437 M437 q437 => ?_)
      obtain ⟨rfl, hO⟩ := q437
      try simp only [zpush]
      rw [show sReason A.1 0 no 0 = -1 from (by unfold sReason; rw [if_pos (by omega)])]
      refine z_iconst dL_refuses_440 ?_
      refine z_icmp_ne (tgt := 481) dL_refuses_441 (by decide) (by decide) (by decide) (fun h => absurd h (by decide)) (fun _ => ?_)
      refine z_aload_n dL_refuses_444 rfl ?_
      refine z_iconst dL_refuses_445 ?_
      refine z_bipush dL_refuses_446 (by decide) ?_
      refine z_iconst dL_refuses_448 ?_
      refine z_callV mX4_cell (t_cell (by decide) (by decide) (by decide) hO) rfl dL_refuses_449 kL_52 (by decide) rfl (by show _ ≤ 8; simp) (by decide) (zsh175) (by decide) rfl (fun v449 M449 q449 => ?_)
      obtain ⟨rfl, hO⟩ := q449
      try simp only [zpush]
      rw [show sCell A.1 5 19 1 = -5 from (by unfold sCell; rw [if_neg (by decide), if_neg (by decide), if_pos rfl, if_pos (show A.1 (120 + (6 * 19 + 5)) = 0 from h239)])]
      refine z_bipush dL_refuses_452 (by decide) ?_
      refine z_icmp_ne (tgt := 477) dL_refuses_454 (by decide) (by decide) (by decide) (fun h => absurd h (by decide)) (fun _ => ?_)
      refine z_aload_n dL_refuses_457 rfl ?_
      refine z_iconst dL_refuses_458 ?_
      refine z_bipush dL_refuses_459 (by decide) ?_
      refine z_aload_n dL_refuses_461 rfl ?_
      refine z_iconst dL_refuses_462 ?_
      refine z_bipush dL_refuses_463 (by decide) ?_
      refine z_iconst dL_refuses_465 ?_
      refine z_callV mX4_cell (t_cell (by decide) (by decide) (by decide) hO) rfl dL_refuses_466 kL_52 (by decide) rfl (by show _ ≤ 8; simp) (by decide) (zsh175) (by decide) rfl (fun v466 M466 q466 => ?_)
      obtain ⟨rfl, hO⟩ := q466
      try simp only [zpush]
      rw [show sCell A.1 5 19 0 = A.1 119 from by unfold sCell; rw [if_neg (by decide), if_pos rfl]; rfl]
      refine z_callV mX4_setFrost (e_setFrost (x := -5) (by decide) (by decide) (by omega) (by unfold sBarF; rw [if_neg (by decide), if_neg (by omega), if_pos ⟨rfl, h239⟩]) (by decide) hO) rfl dL_refuses_469 kL_22 (by decide) rfl (by show _ ≤ 8; simp) (by decide) (zsh175) (by decide) rfl (fun v469 M469 q469 => ?_)
      obtain ⟨rfl, hO⟩ := q469
      try simp only [zpush]
      refine z_bipush dL_refuses_472 (by decide) ?_
      refine z_icmp_ne (tgt := 481) dL_refuses_474 (by decide) (by decide) (by decide) (fun h => absurd h (by decide)) (fun _ => ?_)
      refine z_iconst dL_refuses_477 ?_
      refine z_goto (tgt := 482) dL_refuses_478 (by decide) ?_
      refine z_zret dL_refuses_482 rfl (Or.inr rfl) ?_
      exact ⟨rfl, hO⟩

theorem t_refuses {G : zG} {b : Int} {A : wAb} {M : zM} {y : Int} (hy : 0 ≤ y ∧ y < 100000) (hO : zO b M A) : zCall G yL_refuses YL_refuses [.inr (some 175), .inl y] M (fun v N => v = some (.inl 1) ∧ zO b N A) := by
  refine zEnter (by decide +kernel) rfl (Nat.le_of_ble_eq_true rfl) ?_
  refine zsub' (rfA hO hy (fun N1 hO1 no gone n1 n2 g1 g2 => ?_)) ⟨rfl, rfl, trivial⟩
  refine rfB1 hO1 hy n1 n2 g1 g2 (fun N2 hO2 => ?_)
  refine rfB2 hO2 hy n1 n2 g1 g2 (fun N3 hO3 => ?_)
  refine rfB3 hO3 hy n1 n2 g1 g2 (fun N4 hO4 => ?_)
  exact rfC hO4 hy n1 n2 g1 g2
