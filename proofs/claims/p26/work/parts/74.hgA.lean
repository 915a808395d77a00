/-! ===== hangs(): its cells ===== -/
def trG (σ : zS) (c : Int) : Int := if σ (120 + c) > 0 then 1 else 0
theorem trG_0 {σ : zS} {i : Int} (h : σ (120 + i) = 0) : trG σ i = 0 := if_neg (by omega)
theorem trG_1 {σ : zS} {i : Int} (h : 0 < σ (120 + i)) : trG σ i = 1 := if_pos h
theorem thG_0 {σ : zS} {i : Int} (h : sOn σ (i % 6) (i / 6) = -5) : thG σ (σ 535) i = 0 := if_pos h
theorem thG_1 {σ : zS} {i : Int} (h : ¬ sOn σ (i % 6) (i / 6) = -5) : thG σ (σ 535) i = 1 := if_neg h
theorem zsum_next {g : Int → Int} {i m a t : Int} (h : i < m) (e : zfor (zsumF g) i m a = t) {x : Int} (hx : g i = x) : zfor (zsumF g) (i + 1) m (a + x) = t := by
  rw [← e, zfor_step h, ← hx]
  rfl

theorem hgA {G : zG} {Q : Option zV → zM → Prop} {b : Int} {A : wAb} {M : zM} {i tr fr th : Int} (hO : zO b M A) (hi : 0 ≤ i ∧ i < 120) (k149 : ∀ N : zM, zO b N A → zW G YL_hangs Q 149 [(11, .inl (sOn A.1 (i % 6) (i / 6))), (10, .inl (cAg A.1 i)), (9, .inl (cTr A.1 i)), (8, .inl (i / 6)), (7, .inl (i % 6)), (6, .inl i), (1, .inl tr), (2, .inl fr), (3, .inl th), (4, .inl 1), (5, .inl (A.1 535)), (0, .inr (some 175))] [] N) : zW G YL_hangs Q 31 [(6, .inl i), (1, .inl tr), (2, .inl fr), (3, .inl th), (4, .inl 1), (5, .inl (A.1 535)), (0, .inr (some 175))] [] M := by
  have hf := hc_all hO.1.2 hi
  refine z_iload dL_hangs_31 rfl ?_
  refine z_bipush dL_hangs_33 (by decide) ?_
  refine z_irem dL_hangs_35 (by omega) (by decide) ?_
  refine z_istore dL_hangs_36 (by decide) ?_
  refine z_iload dL_hangs_38 rfl ?_
  refine z_bipush dL_hangs_40 (by decide) ?_
  refine z_idiv dL_hangs_42 (by omega) (by decide) ?_
  refine z_istore dL_hangs_43 (by decide) ?_
  refine z_aload_n dL_hangs_45 rfl ?_
  refine z_iload dL_hangs_46 rfl ?_
  refine z_iload dL_hangs_48 rfl ?_
  refine z_iconst dL_hangs_50 ?_
  refine z_callV mX4_cell (t_c1 hi hO) rfl dL_hangs_51 kL_52 (by decide) rfl (by show _ ≤ 8; simp) (by decide) (zsh175) (by decide) rfl (fun v51 M51 q51 => ?_)
  obtain ⟨rfl, hO⟩ := q51
  try simp only [zpush]
  refine z_istore dL_hangs_54 (by decide) ?_
  refine z_aload_n dL_hangs_56 rfl ?_
  refine z_iload dL_hangs_57 rfl ?_
  refine z_iload dL_hangs_59 rfl ?_
  refine z_iconst dL_hangs_61 ?_
  refine z_callV mX4_cell (t_c2 hi hO) rfl dL_hangs_62 kL_52 (by decide) rfl (by show _ ≤ 8; simp) (by decide) (zsh175) (by decide) rfl (fun v62 M62 q62 => ?_)
  obtain ⟨rfl, hO⟩ := q62
  try simp only [zpush]
  refine z_istore dL_hangs_65 (by decide) ?_
  refine z_aload_n dL_hangs_67 rfl ?_
  refine z_iload dL_hangs_68 rfl ?_
  refine z_iload dL_hangs_70 rfl ?_
  refine z_iconst dL_hangs_72 ?_
  refine z_callV mX4_cell (t_c3 hi hO) rfl dL_hangs_73 kL_52 (by decide) rfl (by show _ ≤ 8; simp) (by decide) (zsh175) (by decide) rfl (fun v73 M73 q73 => ?_)
  obtain ⟨rfl, hO⟩ := q73
  try simp only [zpush]
  refine z_istore dL_hangs_76 (by decide) ?_
  refine z_aload_n dL_hangs_78 rfl ?_
  refine z_iload dL_hangs_79 rfl ?_
  refine z_iload dL_hangs_81 rfl ?_
  refine z_iconst dL_hangs_83 ?_
  refine z_callV mX4_cell (t_c0 hi hO) rfl dL_hangs_84 kL_52 (by decide) rfl (by show _ ≤ 8; simp) (by decide) (zsh175) (by decide) rfl (fun v84 M84 q84 => ?_)
  obtain ⟨rfl, hO⟩ := q84
  try simp only [zpush]
  refine z_if_lt (tgt := 215) dL_hangs_87 (by decide) (by omega) (fun c87 => ?_) (fun c87 => ?_)
  · exact absurd trivial (by omega)
  · refine z_aload_n dL_hangs_90 rfl ?_
    refine z_iload dL_hangs_91 rfl ?_
    refine z_iload dL_hangs_93 rfl ?_
    refine z_iconst dL_hangs_95 ?_
    refine z_callV mX4_cell (t_c0 hi hO) rfl dL_hangs_96 kL_52 (by decide) rfl (by show _ ≤ 8; simp) (by decide) (zsh175) (by decide) rfl (fun v96 M96 q96 => ?_)
    obtain ⟨rfl, hO⟩ := q96
    try simp only [zpush]
    refine z_bipush dL_hangs_99 (by decide) ?_
    refine z_icmp_ge (tgt := 215) dL_hangs_101 (by decide) (by omega) (by decide) (fun c101 => ?_) (fun c101 => ?_)
    · exact absurd trivial (by omega)
    · refine z_iload dL_hangs_104 rfl ?_
      refine z_bipush dL_hangs_106 (by decide) ?_
      refine z_icmp_ne (tgt := 121) dL_hangs_108 (by decide) (by omega) (by decide) (fun c108 => ?_) (fun c108 => ?_)
      · refine z_iload dL_hangs_121 rfl ?_
        refine z_if_lt (tgt := 215) dL_hangs_123 (by decide) (by omega) (fun c123 => ?_) (fun c123 => ?_)
        · exact absurd trivial (by omega)
        · refine z_iload dL_hangs_126 rfl ?_
          refine z_iload dL_hangs_128 rfl ?_
          refine z_icmp_ge (tgt := 215) dL_hangs_130 (by decide) (by omega) (by omega) (fun c130 => ?_) (fun c130 => ?_)
          · exact absurd trivial (by omega)
          · refine z_iload dL_hangs_133 rfl ?_
            refine z_if_lt (tgt := 215) dL_hangs_135 (by decide) (by omega) (fun c135 => ?_) (fun c135 => ?_)
            · exact absurd trivial (by omega)
            · refine z_iload dL_hangs_138 rfl ?_
              refine z_aload_n dL_hangs_140 rfl ?_
              refine z_bipush dL_hangs_141 (by decide) ?_
              refine z_callV mX4_count (t_count (w := 9) (by decide) (by decide) hO) rfl dL_hangs_143 kL_9 (by decide) rfl (by show _ ≤ 8; simp) (by decide) (zsh175) (by decide) rfl (fun v143 M143 q143 => ?_)
              obtain ⟨rfl, hO⟩ := q143
              try simp only [zpush]
              have e9 : sCount A.1 A.2.1.1 0 9 = A.1 531 := rfl
              rw [e9]
              refine z_icmp_gt (tgt := 215) dL_hangs_146 (by decide) (by omega) (by omega) (fun c146 => ?_) (fun c146 => ?_)
              · exact absurd trivial (by omega)
              · exact zsub' (k149 _ hO) ⟨rfl, rfl, rfl, rfl, rfl, rfl, rfl, rfl, rfl, rfl, rfl, rfl, trivial⟩
      · refine z_iload dL_hangs_111 rfl ?_
        refine z_bipush dL_hangs_113 (by decide) ?_
        refine z_icmp_ne (tgt := 215) dL_hangs_115 (by decide) (by omega) (by decide) (fun c115 => ?_) (fun c115 => ?_)
        · exact absurd trivial (by omega)
        · refine z_goto (tgt := 149) dL_hangs_118 (by decide) ?_
          exact zsub' (k149 _ hO) ⟨rfl, rfl, rfl, rfl, rfl, rfl, rfl, rfl, rfl, rfl, rfl, rfl, trivial⟩

theorem hgB {G : zG} {Q : Option zV → zM → Prop} {b : Int} {A : wAb} {M : zM} {i tr fr th : Int} (hO : zO b M A) (hi : 0 ≤ i ∧ i < 120) (k197 : ∀ N : zM, zO b N A → zW G YL_hangs Q 197 [(11, .inl (sOn A.1 (i % 6) (i / 6))), (10, .inl (cAg A.1 i)), (9, .inl (cTr A.1 i)), (8, .inl (i / 6)), (7, .inl (i % 6)), (6, .inl i), (1, .inl tr), (2, .inl fr), (3, .inl th), (4, .inl 1), (5, .inl (A.1 535)), (0, .inr (some 175))] [] N) : zW G YL_hangs Q 149 [(11, .inl (sOn A.1 (i % 6) (i / 6))), (10, .inl (cAg A.1 i)), (9, .inl (cTr A.1 i)), (8, .inl (i / 6)), (7, .inl (i % 6)), (6, .inl i), (1, .inl tr), (2, .inl fr), (3, .inl th), (4, .inl 1), (5, .inl (A.1 535)), (0, .inr (some 175))] [] M := by
  have hf := hc_all hO.1.2 hi
  refine z_iload dL_hangs_149 rfl ?_
  refine z_bipush dL_hangs_151 (by decide) ?_
  refine z_icmp_eq (tgt := 197) dL_hangs_153 (by decide) (by omega) (by decide) (fun c153 => ?_) (fun c153 => ?_)
  · exact zsub' (k197 _ hO) ⟨rfl, rfl, rfl, rfl, rfl, rfl, rfl, rfl, rfl, rfl, rfl, rfl, trivial⟩
  · refine z_aload_n dL_hangs_156 rfl ?_
    refine z_iload dL_hangs_157 rfl ?_
    refine z_iconst dL_hangs_159 ?_
    refine z_callV mX4_snail (t_sn (by omega) (by decide) hO) rfl dL_hangs_160 kL_55 (by decide) rfl (by show _ ≤ 8; simp) (by decide) (zsh175) (by decide) rfl (fun v160 M160 q160 => ?_)
    obtain ⟨rfl, hO⟩ := q160
    try simp only [zpush]
    refine z_iload dL_hangs_163 rfl ?_
    refine z_icmp_ne (tgt := 215) dL_hangs_165 (by decide) (by omega) (by omega) (fun c165 => ?_) (fun c165 => ?_)
    · exact absurd trivial (by omega)
    · refine z_aload_n dL_hangs_168 rfl ?_
      refine z_iload dL_hangs_169 rfl ?_
      refine z_iconst dL_hangs_171 ?_
      refine z_callV mX4_snail (t_sn (by omega) (by decide) hO) rfl dL_hangs_172 kL_55 (by decide) rfl (by show _ ≤ 8; simp) (by decide) (zsh175) (by decide) rfl (fun v172 M172 q172 => ?_)
      obtain ⟨rfl, hO⟩ := q172
      try simp only [zpush]
      refine z_iload dL_hangs_175 rfl ?_
      refine z_icmp_ne (tgt := 215) dL_hangs_177 (by decide) (by omega) (by omega) (fun c177 => ?_) (fun c177 => ?_)
      · exact absurd trivial (by omega)
      · refine z_aload_n dL_hangs_180 rfl ?_
        refine z_iload dL_hangs_181 rfl ?_
        refine z_iconst dL_hangs_183 ?_
        refine z_callV mX4_snail (t_sn (by omega) (by decide) hO) rfl dL_hangs_184 kL_55 (by decide) rfl (by show _ ≤ 8; simp) (by decide) (zsh175) (by decide) rfl (fun v184 M184 q184 => ?_)
        obtain ⟨rfl, hO⟩ := q184
        try simp only [zpush]
        refine z_if_ne (tgt := 215) dL_hangs_187 (by decide) (by omega) (fun c187 => ?_) (fun c187 => ?_)
        · exact absurd trivial (by omega)
        · refine z_iload dL_hangs_190 rfl ?_
          refine z_bipush dL_hangs_192 (by decide) ?_
          refine z_icmp_ge (tgt := 215) dL_hangs_194 (by decide) (by omega) (by decide) (fun c194 => ?_) (fun c194 => ?_)
          · exact absurd trivial (by omega)
          · exact zsub' (k197 _ hO) ⟨rfl, rfl, rfl, rfl, rfl, rfl, rfl, rfl, rfl, rfl, rfl, rfl, trivial⟩

theorem hgC {G : zG} {Q : Option zV → zM → Prop} {b : Int} {A : wAb} {M : zM} {i tr fr th : Int} (hO : zO b M A) (hi : 0 ≤ i ∧ i < 120) (k218 : ∀ N : zM, zO b N A → zW G YL_hangs Q 218 [(11, .inl (sOn A.1 (i % 6) (i / 6))), (10, .inl (cAg A.1 i)), (9, .inl (cTr A.1 i)), (8, .inl (i / 6)), (7, .inl (i % 6)), (6, .inl i), (1, .inl tr), (2, .inl fr), (3, .inl th), (4, .inl 1), (5, .inl (A.1 535)), (0, .inr (some 175))] [] N) : zW G YL_hangs Q 197 [(11, .inl (sOn A.1 (i % 6) (i / 6))), (10, .inl (cAg A.1 i)), (9, .inl (cTr A.1 i)), (8, .inl (i / 6)), (7, .inl (i % 6)), (6, .inl i), (1, .inl tr), (2, .inl fr), (3, .inl th), (4, .inl 1), (5, .inl (A.1 535)), (0, .inr (some 175))] [] M := by
  have hf := hc_all hO.1.2 hi
  refine z_iload dL_hangs_197 rfl ?_
  refine z_bipush dL_hangs_199 (by decide) ?_
  refine z_icmp_lt (tgt := 211) dL_hangs_201 (by decide) (by omega) (by decide) (fun c201 => ?_) (fun c201 => ?_)
  · refine z_iconst dL_hangs_211 ?_
    refine z_goto (tgt := 216) dL_hangs_212 (by decide) ?_
    refine z_istore dL_hangs_216 (by decide) ?_
    exact zsub' (k218 _ hO) ⟨rfl, rfl, rfl, rfl, rfl, rfl, rfl, rfl, rfl, rfl, rfl, rfl, trivial⟩
  · refine z_iload dL_hangs_204 rfl ?_
    refine z_bipush dL_hangs_206 (by decide) ?_
    refine z_icmp_ne (tgt := 215) dL_hangs_208 (by decide) (by omega) (by decide) (fun c208 => ?_) (fun c208 => ?_)
    · exact absurd trivial (by omega)
    · refine z_iconst dL_hangs_211 ?_
      refine z_goto (tgt := 216) dL_hangs_212 (by decide) ?_
      refine z_istore dL_hangs_216 (by decide) ?_
      exact zsub' (k218 _ hO) ⟨rfl, rfl, rfl, rfl, rfl, rfl, rfl, rfl, rfl, rfl, rfl, rfl, trivial⟩

theorem hgD {G : zG} {Q : Option zV → zM → Prop} {b : Int} {A : wAb} {M : zM} {i tr fr th : Int} (hO : zO b M A) (hi : 0 ≤ i ∧ i < 120) (k327 : ∀ N : zM, zO b N A → zW G YL_hangs Q 327 [(11, .inl (sOn A.1 (i % 6) (i / 6))), (10, .inl (cAg A.1 i)), (9, .inl (cTr A.1 i)), (8, .inl (i / 6)), (7, .inl (i % 6)), (6, .inl i), (1, .inl tr), (2, .inl fr), (3, .inl th), (4, .inl 1), (5, .inl (A.1 535)), (0, .inr (some 175))] [] N) : zW G YL_hangs Q 218 [(11, .inl (sOn A.1 (i % 6) (i / 6))), (10, .inl (cAg A.1 i)), (9, .inl (cTr A.1 i)), (8, .inl (i / 6)), (7, .inl (i % 6)), (6, .inl i), (1, .inl tr), (2, .inl fr), (3, .inl th), (4, .inl 1), (5, .inl (A.1 535)), (0, .inr (some 175))] [] M := by
  have hf := hc_all hO.1.2 hi
  have hw := hw_all hO.1.2 hi
  refine z_iload dL_hangs_218 rfl ?_
  refine z_if_eq (tgt := 324) dL_hangs_220 (by decide) (by decide) (fun h => absurd h (by decide)) (fun _ => ?_)
  refine z_aload_n dL_hangs_223 rfl ?_
  refine z_iload dL_hangs_224 rfl ?_
  refine z_iload dL_hangs_226 rfl ?_
  refine z_iconst dL_hangs_228 ?_
  refine z_callV mX4_wayUp (t_w hi (by decide) hO) rfl dL_hangs_229 kL_58 (by decide) rfl (by show _ ≤ 8; simp) (by decide) (zsh175) (by decide) rfl (fun v229 M229 q229 => ?_)
  obtain ⟨rfl, hO⟩ := q229
  try simp only [zpush]
  refine z_aload_n dL_hangs_232 rfl ?_
  refine z_iload dL_hangs_233 rfl ?_
  refine z_iload dL_hangs_235 rfl ?_
  refine z_iconst dL_hangs_237 ?_
  refine z_callV mX4_wayUp (t_w hi (by decide) hO) rfl dL_hangs_238 kL_58 (by decide) rfl (by show _ ≤ 8; simp) (by decide) (zsh175) (by decide) rfl (fun v238 M238 q238 => ?_)
  obtain ⟨rfl, hO⟩ := q238
  try simp only [zpush]
  refine z_same_ne (tgt := 324) dL_hangs_241 (by decide) ?_
  refine z_iload dL_hangs_244 rfl ?_
  refine z_bipush dL_hangs_246 (by decide) ?_
  refine z_icmp_ne (tgt := 266) dL_hangs_248 (by decide) (by omega) (by decide) (fun c248 => ?_) (fun c248 => ?_)
  · refine z_aload_n dL_hangs_266 rfl ?_
    refine z_iload dL_hangs_267 rfl ?_
    refine z_iload dL_hangs_269 rfl ?_
    refine z_iconst dL_hangs_271 ?_
    refine z_callV mX4_wayUp (t_w hi (by decide) hO) rfl dL_hangs_272 kL_58 (by decide) rfl (by show _ ≤ 8; simp) (by decide) (zsh175) (by decide) rfl (fun v272 M272 q272 => ?_)
    obtain ⟨rfl, hO⟩ := q272
    try simp only [zpush]
    refine z_bipush dL_hangs_275 (by decide) ?_
    refine z_iload dL_hangs_277 rfl ?_
    refine z_isub dL_hangs_279 ?_
    refine z_icmp_lt (tgt := 324) dL_hangs_280 (by decide) (by omega) (by omega) (fun c280 => ?_) (fun c280 => ?_)
    · exact absurd trivial (by omega)
    · refine z_aload_n dL_hangs_283 rfl ?_
      refine z_iload dL_hangs_284 rfl ?_
      refine z_iload dL_hangs_286 rfl ?_
      refine z_iconst dL_hangs_288 ?_
      refine z_callV mX4_wayUp (t_w hi (by decide) hO) rfl dL_hangs_289 kL_58 (by decide) rfl (by show _ ≤ 8; simp) (by decide) (zsh175) (by decide) rfl (fun v289 M289 q289 => ?_)
      obtain ⟨rfl, hO⟩ := q289
      try simp only [zpush]
      refine z_aload_n dL_hangs_292 rfl ?_
      refine z_iload dL_hangs_293 rfl ?_
      refine z_iload dL_hangs_295 rfl ?_
      refine z_iconst dL_hangs_297 ?_
      refine z_iadd dL_hangs_298 ?_
      refine z_iconst dL_hangs_299 ?_
      refine z_callV mX4_wayUp (t_wu (by omega) (by decide) hO) rfl dL_hangs_300 kL_58 (by decide) rfl (by show _ ≤ 8; simp) (by decide) (zsh175) (by decide) rfl (fun v300 M300 q300 => ?_)
      obtain ⟨rfl, hO⟩ := q300
      try simp only [zpush]
      refine z_iconst dL_hangs_303 ?_
      refine z_iadd dL_hangs_304 ?_
      refine z_aload_n dL_hangs_305 rfl ?_
      refine z_iload dL_hangs_306 rfl ?_
      refine z_iload dL_hangs_308 rfl ?_
      refine z_iconst dL_hangs_310 ?_
      refine z_iadd dL_hangs_311 ?_
      refine z_iconst dL_hangs_312 ?_
      refine z_callV mX4_cell (t_c0u (by omega) hO) rfl dL_hangs_313 kL_52 (by decide) rfl (by show _ ≤ 8; simp) (by decide) (zsh175) (by decide) rfl (fun v313 M313 q313 => ?_)
      obtain ⟨rfl, hO⟩ := q313
      try simp only [zpush]
      refine z_iadd dL_hangs_316 ?_
      refine z_icmp_gt (tgt := 324) dL_hangs_317 (by decide) (by omega) (by omega) (fun c317 => ?_) (fun c317 => ?_)
      · exact absurd trivial (by omega)
      · refine z_iconst dL_hangs_320 ?_
        refine z_goto (tgt := 325) dL_hangs_321 (by decide) ?_
        refine z_istore dL_hangs_325 (by decide) ?_
        exact zsub' (k327 _ hO) ⟨rfl, rfl, rfl, rfl, rfl, rfl, rfl, rfl, rfl, rfl, rfl, rfl, trivial⟩
  · refine z_aload_n dL_hangs_251 rfl ?_
    refine z_iload dL_hangs_252 rfl ?_
    refine z_iload dL_hangs_254 rfl ?_
    refine z_iconst dL_hangs_256 ?_
    refine z_callV mX4_wayUp (t_w hi (by decide) hO) rfl dL_hangs_257 kL_58 (by decide) rfl (by show _ ≤ 8; simp) (by decide) (zsh175) (by decide) rfl (fun v257 M257 q257 => ?_)
    obtain ⟨rfl, hO⟩ := q257
    try simp only [zpush]
    refine z_if_ne (tgt := 324) dL_hangs_260 (by decide) (by omega) (fun c260 => ?_) (fun c260 => ?_)
    · exact absurd trivial (by omega)
    · refine z_goto (tgt := 320) dL_hangs_263 (by decide) ?_
      refine z_iconst dL_hangs_320 ?_
      refine z_goto (tgt := 325) dL_hangs_321 (by decide) ?_
      refine z_istore dL_hangs_325 (by decide) ?_
      exact zsub' (k327 _ hO) ⟨rfl, rfl, rfl, rfl, rfl, rfl, rfl, rfl, rfl, rfl, rfl, rfl, trivial⟩

theorem hgE {G : zG} {Q : Option zV → zM → Prop} {b : Int} {A : wAb} {M : zM} {i tr fr th : Int} (hO : zO b M A) (hi : 0 ≤ i ∧ i < 120) (h1 : zfor (zsumF (trG A.1)) i 120 tr = sTrl A.1) (h2 : zfor (zsumF A.1) i 120 fr = sFro A.1) (h3 : zfor (zsumF (thG A.1 (A.1 535))) i 120 th = sIn A.1 0) (k19 : ∀ N : zM, zO b N A → ∀ tr2 fr2 th2 : Int, zfor (zsumF (trG A.1)) (i + 1) 120 tr2 = sTrl A.1 → zfor (zsumF A.1) (i + 1) 120 fr2 = sFro A.1 → zfor (zsumF (thG A.1 (A.1 535))) (i + 1) 120 th2 = sIn A.1 0 → zW G YL_hangs Q 19 [(6, .inl (i + 1)), (1, .inl tr2), (2, .inl fr2), (3, .inl th2), (4, .inl 1), (5, .inl (A.1 535)), (0, .inr (some 175))] [] N) : zW G YL_hangs Q 327 [(11, .inl (sOn A.1 (i % 6) (i / 6))), (10, .inl (cAg A.1 i)), (9, .inl (cTr A.1 i)), (8, .inl (i / 6)), (7, .inl (i % 6)), (6, .inl i), (1, .inl tr), (2, .inl fr), (3, .inl th), (4, .inl 1), (5, .inl (A.1 535)), (0, .inr (some 175))] [] M := by
  have hf := hc_all hO.1.2 hi
  refine z_iload_n dL_hangs_327 rfl ?_
  refine z_iload dL_hangs_328 rfl ?_
  refine z_bipush dL_hangs_330 (by decide) ?_
  refine z_icmp_ne (tgt := 339) dL_hangs_332 (by decide) (by omega) (by decide) (fun c332 => ?_) (fun c332 => ?_)
  · refine z_iconst dL_hangs_339 ?_
    refine z_iadd dL_hangs_340 ?_
    refine z_istore_n dL_hangs_341 (by decide) ?_
    refine z_iload_n dL_hangs_342 rfl ?_
    refine z_aload_n dL_hangs_343 rfl ?_
    refine z_iload dL_hangs_344 rfl ?_
    refine z_iload dL_hangs_346 rfl ?_
    refine z_iconst dL_hangs_348 ?_
    refine z_callV mX4_cell (t_c0 hi hO) rfl dL_hangs_349 kL_52 (by decide) rfl (by show _ ≤ 8; simp) (by decide) (zsh175) (by decide) rfl (fun v349 M349 q349 => ?_)
    obtain ⟨rfl, hO⟩ := q349
    try simp only [zpush]
    refine z_iadd dL_hangs_352 ?_
    refine z_istore_n dL_hangs_353 (by decide) ?_
    refine z_iload_n dL_hangs_354 rfl ?_
    refine z_iload dL_hangs_355 rfl ?_
    refine z_bipush dL_hangs_357 (by decide) ?_
    refine z_icmp_ne (tgt := 366) dL_hangs_359 (by decide) (by omega) (by decide) (fun c359 => ?_) (fun c359 => ?_)
    · refine z_iconst dL_hangs_366 ?_
      refine z_iadd dL_hangs_367 ?_
      refine z_istore_n dL_hangs_368 (by decide) ?_
      refine z_iinc dL_hangs_369 rfl (by decide) ?_
      refine z_goto (tgt := 19) dL_hangs_372 (by decide) ?_
      exact zsub' (k19 _ hO _ _ _ (zsum_next hi.2 h1 (by first | exact trG_0 (by omega) | exact trG_1 (by omega))) (zsum_next hi.2 h2 rfl) (zsum_next hi.2 h3 (by first | exact thG_0 (by omega) | exact thG_1 (by omega)))) ⟨rfl, rfl, rfl, rfl, rfl, rfl, rfl, trivial⟩
    · refine z_iconst dL_hangs_362 ?_
      refine z_goto (tgt := 367) dL_hangs_363 (by decide) ?_
      refine z_iadd dL_hangs_367 ?_
      refine z_istore_n dL_hangs_368 (by decide) ?_
      refine z_iinc dL_hangs_369 rfl (by decide) ?_
      refine z_goto (tgt := 19) dL_hangs_372 (by decide) ?_
      exact zsub' (k19 _ hO _ _ _ (zsum_next hi.2 h1 (by first | exact trG_0 (by omega) | exact trG_1 (by omega))) (zsum_next hi.2 h2 rfl) (zsum_next hi.2 h3 (by first | exact thG_0 (by omega) | exact thG_1 (by omega)))) ⟨rfl, rfl, rfl, rfl, rfl, rfl, rfl, trivial⟩
  · refine z_iconst dL_hangs_335 ?_
    refine z_goto (tgt := 340) dL_hangs_336 (by decide) ?_
    refine z_iadd dL_hangs_340 ?_
    refine z_istore_n dL_hangs_341 (by decide) ?_
    refine z_iload_n dL_hangs_342 rfl ?_
    refine z_aload_n dL_hangs_343 rfl ?_
    refine z_iload dL_hangs_344 rfl ?_
    refine z_iload dL_hangs_346 rfl ?_
    refine z_iconst dL_hangs_348 ?_
    refine z_callV mX4_cell (t_c0 hi hO) rfl dL_hangs_349 kL_52 (by decide) rfl (by show _ ≤ 8; simp) (by decide) (zsh175) (by decide) rfl (fun v349 M349 q349 => ?_)
    obtain ⟨rfl, hO⟩ := q349
    try simp only [zpush]
    refine z_iadd dL_hangs_352 ?_
    refine z_istore_n dL_hangs_353 (by decide) ?_
    refine z_iload_n dL_hangs_354 rfl ?_
    refine z_iload dL_hangs_355 rfl ?_
    refine z_bipush dL_hangs_357 (by decide) ?_
    refine z_icmp_ne (tgt := 366) dL_hangs_359 (by decide) (by omega) (by decide) (fun c359 => ?_) (fun c359 => ?_)
    · refine z_iconst dL_hangs_366 ?_
      refine z_iadd dL_hangs_367 ?_
      refine z_istore_n dL_hangs_368 (by decide) ?_
      refine z_iinc dL_hangs_369 rfl (by decide) ?_
      refine z_goto (tgt := 19) dL_hangs_372 (by decide) ?_
      exact zsub' (k19 _ hO _ _ _ (zsum_next hi.2 h1 (by first | exact trG_0 (by omega) | exact trG_1 (by omega))) (zsum_next hi.2 h2 rfl) (zsum_next hi.2 h3 (by first | exact thG_0 (by omega) | exact thG_1 (by omega)))) ⟨rfl, rfl, rfl, rfl, rfl, rfl, rfl, trivial⟩
    · refine z_iconst dL_hangs_362 ?_
      refine z_goto (tgt := 367) dL_hangs_363 (by decide) ?_
      refine z_iadd dL_hangs_367 ?_
      refine z_istore_n dL_hangs_368 (by decide) ?_
      refine z_iinc dL_hangs_369 rfl (by decide) ?_
      refine z_goto (tgt := 19) dL_hangs_372 (by decide) ?_
      exact zsub' (k19 _ hO _ _ _ (zsum_next hi.2 h1 (by first | exact trG_0 (by omega) | exact trG_1 (by omega))) (zsum_next hi.2 h2 rfl) (zsum_next hi.2 h3 (by first | exact thG_0 (by omega) | exact thG_1 (by omega)))) ⟨rfl, rfl, rfl, rfl, rfl, rfl, rfl, trivial⟩

theorem hg_cells {G : zG} {Q : Option zV → zM → Prop} {b : Int} {A : wAb} (k375 : ∀ (N : zM), zO b N A → zW G YL_hangs Q 375 [(1, .inl (sTrl A.1)), (2, .inl (sFro A.1)), (3, .inl (sIn A.1 0)), (4, .inl 1), (5, .inl (A.1 535)), (0, .inr (some 175))] [] N) : ∀ (n : Nat) (i tr fr th : Int) (M : zM), zO b M A → 0 ≤ i → i + n = 120 → zfor (zsumF (trG A.1)) i 120 tr = sTrl A.1 → zfor (zsumF A.1) i 120 fr = sFro A.1 → zfor (zsumF (thG A.1 (A.1 535))) i 120 th = sIn A.1 0 → zW G YL_hangs Q 19 [(6, .inl i), (1, .inl tr), (2, .inl fr), (3, .inl th), (4, .inl 1), (5, .inl (A.1 535)), (0, .inr (some 175))] [] M
  | 0, i, tr, fr, th, M, hO, hi, hin, h1, h2, h3 => by
    rw [zfor_end (by omega)] at h1 h2 h3
    rw [h1, h2, h3]
    refine z_iload dL_hangs_19 rfl ?_
    refine z_bipush dL_hangs_21 (by decide) ?_
    refine z_icmp_ge (tgt := 375) dL_hangs_23 (by decide) (by omega) (by decide) (fun c => ?_) (fun c => absurd trivial (by omega))
    exact zsub' (k375 _ hO) ⟨rfl, rfl, rfl, rfl, rfl, rfl, trivial⟩
  | n + 1, i, tr, fr, th, M, hO, hi, hin, h1, h2, h3 => by
    refine z_iload dL_hangs_19 rfl ?_
    refine z_bipush dL_hangs_21 (by decide) ?_
    refine z_icmp_ge (tgt := 375) dL_hangs_23 (by decide) (by omega) (by decide) (fun c => absurd trivial (by omega)) (fun c => ?_)
    refine z_iload dL_hangs_26 rfl ?_
    refine z_if_eq (tgt := 375) dL_hangs_28 (by decide) (by decide) (fun h => absurd h (by decide)) (fun _ => ?_)
    refine hgA hO ⟨hi, c⟩ (fun N1 hO1 => ?_)
    refine hgB hO1 ⟨hi, c⟩ (fun N2 hO2 => ?_)
    refine hgC hO2 ⟨hi, c⟩ (fun N3 hO3 => ?_)
    refine hgD hO3 ⟨hi, c⟩ (fun N4 hO4 => ?_)
    refine hgE hO4 ⟨hi, c⟩ h1 h2 h3 (fun N5 hO5 tr2 fr2 th2 e1 e2 e3 => ?_)
    exact hg_cells k375 n (i + 1) tr2 fr2 th2 N5 hO5 (by omega) (by omega) e1 e2 e3
