theorem vX5_creep {G : zG} {M : zM} {σ : zS} {k step : Int} (hI : zI σ) (hk : 0 ≤ k ∧ k < 9) (hs : 0 ≤ step ∧ step ≤ 2) (hpr : sPr σ k step ≠ -5) : zCall G yX5_creep YX5_creep [.inr (some 187), .inl k, .inl step] (zt M σ) (fun v M' => v = none ∧ M' = zt M (sCreep σ k step)) := by
  refine zEnter (by decide +kernel) rfl (Nat.le_of_ble_eq_true rfl) ?_
  have hk9 := hI.2.2 k hk.1 hk.2
  unfold zIk at hk9
  have hs9 := hI.1
  unfold zIs at hs9
  have hok := sPr_ok hpr
  refine z_aload_n dX5_creep_0 rfl ?_
  refine z_getR (b := 188) dX5_creep_1 fX5_7 (by decide) zsh187 rfl rfl ?_
  refine z_iload_n dX5_creep_4 rfl ?_
  refine z_iconst dX5_creep_5 ?_
  refine z_callS mX5_of vX5_of rfl dX5_creep_6 kX5_40 (by decide) rfl (by show _ ≤ 8; simp) (fun v6 M6 q6 => ?_)
  obtain ⟨rfl, rfl⟩ := q6
  try simp only [zpush]
  refine z_sload dX5_creep_9 (by omega) ?_
  refine z_aload_n dX5_creep_10 rfl ?_
  refine z_getR (b := 188) dX5_creep_11 fX5_7 (by decide) zsh187 rfl rfl ?_
  refine z_iload_n dX5_creep_14 rfl ?_
  refine z_iconst dX5_creep_15 ?_
  refine z_callS mX5_of vX5_of rfl dX5_creep_16 kX5_40 (by decide) rfl (by show _ ≤ 8; simp) (fun v16 M16 q16 => ?_)
  obtain ⟨rfl, rfl⟩ := q16
  try simp only [zpush]
  refine z_sload dX5_creep_19 (by omega) ?_
  refine z_callS mX5_at vX5_at rfl dX5_creep_20 kX5_70 (by decide) rfl (by show _ ≤ 8; simp) (fun v20 M20 q20 => ?_)
  obtain ⟨rfl, rfl⟩ := q20
  try simp only [zpush]
  refine z_istore_n dX5_creep_23 (by decide) ?_
  refine z_aload_n dX5_creep_24 rfl ?_
  refine z_getR (b := 188) dX5_creep_25 fX5_7 (by decide) zsh187 rfl rfl ?_
  refine z_iload_n dX5_creep_28 rfl ?_
  refine z_iconst dX5_creep_29 ?_
  refine z_callS mX5_of vX5_of rfl dX5_creep_30 kX5_40 (by decide) rfl (by show _ ≤ 8; simp) (fun v30 M30 q30 => ?_)
  obtain ⟨rfl, rfl⟩ := q30
  try simp only [zpush]
  refine z_sload dX5_creep_33 (by omega) ?_
  refine z_iload_n dX5_creep_34 rfl ?_
  refine z_callS mX5_laneOf (vX5_laneOf (by omega)) rfl dX5_creep_35 kX5_87 (by decide) rfl (by show _ ≤ 8; simp) (fun v35 M35 q35 => ?_)
  obtain ⟨rfl, rfl⟩ := q35
  try simp only [zpush]
  generalize hx : sLn (σ (360 + 10 * k + 0)) step = x at hok
  refine z_istore dX5_creep_38 (by decide) ?_
  refine z_iload dX5_creep_40 rfl ?_
  refine z_aload_n dX5_creep_42 rfl ?_
  refine z_getR (b := 188) dX5_creep_43 fX5_7 (by decide) zsh187 rfl rfl ?_
  refine z_iload_n dX5_creep_46 rfl ?_
  refine z_iconst dX5_creep_47 ?_
  refine z_callS mX5_of vX5_of rfl dX5_creep_48 kX5_40 (by decide) rfl (by show _ ≤ 8; simp) (fun v48 M48 q48 => ?_)
  obtain ⟨rfl, rfl⟩ := q48
  try simp only [zpush]
  refine z_sload dX5_creep_51 (by omega) ?_
  refine z_iconst dX5_creep_52 ?_
  refine z_iadd dX5_creep_53 ?_
  refine z_callS mX5_at vX5_at rfl dX5_creep_54 kX5_70 (by decide) rfl (by show _ ≤ 8; simp) (fun v54 M54 q54 => ?_)
  obtain ⟨rfl, rfl⟩ := q54
  try simp only [zpush]
  generalize hto : 6 * (σ (360 + 10 * k + 1) + 1) + x = to
  refine z_istore dX5_creep_57 (by decide) ?_
  refine z_aload_n dX5_creep_59 rfl ?_
  refine z_iload_n dX5_creep_60 rfl ?_
  refine z_iload dX5_creep_61 rfl ?_
  refine z_callV mX5_why (vX5_why hI hk (by omega)) rfl dX5_creep_63 kX5_90 (by decide) rfl (by show _ ≤ 8; simp) (by decide) zsh187 (by decide) rfl (fun v63 M63 q63 => ?_)
  obtain ⟨rfl, rfl⟩ := q63
  try simp only [zpush]
  have hwr := sWhy_r σ k to
  have hct := hI.2.1 to (by omega) (by omega)
  unfold zIc at hct
  refine z_if_ne (tgt := 73) dX5_creep_66 (by decide) (by omega) (fun c66 => ?_) (fun c66 => ?_)
  · refine z_iconst dX5_creep_73 ?_
    refine z_istore dX5_creep_74 (by decide) ?_
    refine z_aload_n dX5_creep_76 rfl ?_
    refine z_getR (b := 188) dX5_creep_77 fX5_7 (by decide) zsh187 rfl rfl ?_
    refine z_iload_n dX5_creep_80 rfl ?_
    refine z_iconst dX5_creep_81 ?_
    refine z_callS mX5_of vX5_of rfl dX5_creep_82 kX5_40 (by decide) rfl (by show _ ≤ 8; simp) (fun v82 M82 q82 => ?_)
    obtain ⟨rfl, rfl⟩ := q82
    try simp only [zpush]
    refine z_dup2 dX5_creep_85 ?_
    refine z_sload dX5_creep_86 (by omega) ?_
    refine z_aload_n dX5_creep_87 rfl ?_
    refine z_iload_n dX5_creep_88 rfl ?_
    refine z_iload_n dX5_creep_89 rfl ?_
    refine z_callV mX5_price (vX5_price hI hk (by omega)) rfl dX5_creep_90 kX5_93 (by decide) rfl (by show _ ≤ 8; simp) (by decide) zsh187 (by decide) rfl (fun v90 M90 q90 => ?_)
    obtain ⟨rfl, rfl⟩ := q90
    try simp only [zpush]
    refine z_isub dX5_creep_93 ?_
    refine z_sstore dX5_creep_94 (by omega) (fun σ94 hσ94 => ?_)
    refine z_aload_n dX5_creep_95 rfl ?_
    refine z_getR (b := 188) dX5_creep_96 fX5_7 (by decide) zsh187 rfl rfl ?_
    refine z_iload_n dX5_creep_99 rfl ?_
    refine z_iconst dX5_creep_100 ?_
    refine z_callS mX5_of vX5_of rfl dX5_creep_101 kX5_40 (by decide) rfl (by show _ ≤ 8; simp) (fun v101 M101 q101 => ?_)
    obtain ⟨rfl, rfl⟩ := q101
    try simp only [zpush]
    refine z_dup2 dX5_creep_104 ?_
    refine z_sload dX5_creep_105 (by omega) ?_
    refine z_iconst dX5_creep_106 ?_
    refine z_iadd dX5_creep_107 ?_
    refine z_sstore dX5_creep_108 (by omega) (fun σ108 hσ108 => ?_)
    have h1 : σ94 = sC1 σ k step := hσ94
    have h2 : σ108 = sC2 σ94 k := hσ108
    have e0 : ∀ j : Int, j ≠ 360 + 10 * k + 2 → j ≠ 360 + 10 * k + 5 → σ108 j = σ j := fun j j1 j2 => by rw [hσ108, zu_ne j2, hσ94, zu_ne j1]
    have e1 : σ108 (120 + to) = σ (120 + to) := e0 _ (by omega) (by omega)
    generalize hwh : σ108 (120 + to) = w at e1
    have J : ∀ σ3 : zS, σ3 = sC3 σ108 k (sWhy σ k to) w → zW G YX5_creep (fun v M' => v = none ∧ M' = zt M (sCreep σ k step)) 247 [(0, .inr (some 187)), (1, .inl k), (3, .inl (6 * σ (360 + 10 * k + 1) + σ (360 + 10 * k + 0))), (4, .inl x)] [] (zt M σ3) := by
      intro σ3 h3
      have h3r : σ3 (360 + 10 * k + 1) = σ (360 + 10 * k + 1) := by rw [h3, sC3_off (by omega) (by omega) (by omega) (by omega), e0 _ (by omega) (by omega)]
      refine z_aload_n dX5_creep_247 rfl ?_
      refine z_getR (b := 188) dX5_creep_248 fX5_7 (by decide) zsh187 rfl rfl ?_
      refine z_bipush dX5_creep_251 (by decide) ?_
      refine z_iload_n dX5_creep_253 rfl ?_
      refine z_iadd dX5_creep_254 ?_
      refine z_iload_n dX5_creep_255 rfl ?_
      refine z_iconst dX5_creep_256 ?_
      refine z_iadd dX5_creep_257 ?_
      refine z_sstore dX5_creep_258 (by omega) (fun σ258 hσ258 => ?_)
      refine z_aload_n dX5_creep_259 rfl ?_
      refine z_getR (b := 188) dX5_creep_260 fX5_7 (by decide) zsh187 rfl rfl ?_
      refine z_sipush dX5_creep_263 (by decide) ?_
      refine z_iload_n dX5_creep_266 rfl ?_
      refine z_iadd dX5_creep_267 ?_
      refine z_iconst dX5_creep_268 ?_
      refine z_sstore dX5_creep_269 (by omega) (fun σ269 hσ269 => ?_)
      refine z_aload_n dX5_creep_270 rfl ?_
      refine z_getR (b := 188) dX5_creep_271 fX5_7 (by decide) zsh187 rfl rfl ?_
      refine z_iload_n dX5_creep_274 rfl ?_
      refine z_iconst dX5_creep_275 ?_
      refine z_callS mX5_of vX5_of rfl dX5_creep_276 kX5_40 (by decide) rfl (by show _ ≤ 8; simp) (fun v276 M276 q276 => ?_)
      obtain ⟨rfl, rfl⟩ := q276
      try simp only [zpush]
      refine z_iload dX5_creep_279 rfl ?_
      refine z_sstore dX5_creep_281 (by omega) (fun σ281 hσ281 => ?_)
      refine z_aload_n dX5_creep_282 rfl ?_
      refine z_getR (b := 188) dX5_creep_283 fX5_7 (by decide) zsh187 rfl rfl ?_
      refine z_iload_n dX5_creep_286 rfl ?_
      refine z_iconst dX5_creep_287 ?_
      refine z_callS mX5_of vX5_of rfl dX5_creep_288 kX5_40 (by decide) rfl (by show _ ≤ 8; simp) (fun v288 M288 q288 => ?_)
      obtain ⟨rfl, rfl⟩ := q288
      try simp only [zpush]
      refine z_dup2 dX5_creep_291 ?_
      refine z_sload dX5_creep_292 (by omega) ?_
      refine z_iconst dX5_creep_293 ?_
      refine z_iadd dX5_creep_294 ?_
      refine z_sstore dX5_creep_295 (by omega) (fun σ295 hσ295 => ?_)
      have hrow : σ295 (360 + 10 * k + 1) = σ (360 + 10 * k + 1) + 1 := by rw [hσ295, zu_at, hσ281, zu_ne (by omega), hσ269, zu_ne (by omega), hσ258, zu_ne (by omega), h3r]
      refine z_aload_n dX5_creep_296 rfl ?_
      refine z_getR (b := 188) dX5_creep_297 fX5_7 (by decide) zsh187 rfl rfl ?_
      refine z_iload_n dX5_creep_300 rfl ?_
      refine z_iconst dX5_creep_301 ?_
      refine z_callS mX5_of vX5_of rfl dX5_creep_302 kX5_40 (by decide) rfl (by show _ ≤ 8; simp) (fun v302 M302 q302 => ?_)
      obtain ⟨rfl, rfl⟩ := q302
      try simp only [zpush]
      refine z_sload dX5_creep_305 (by omega) ?_
      refine z_bipush dX5_creep_306 (by decide) ?_
      refine z_icmp_ne (tgt := 352) dX5_creep_308 (by decide) (by omega) (by omega) (fun c308 => ?_) (fun c308 => ?_)
      · refine z_vret dX5_creep_352 rfl ?_
        refine ⟨rfl, ?_⟩
        have ht : sTo σ k step = to := by unfold sTo; rw [hx]; exact hto
        have f5 : sC5 (sC4 σ3 k (sFrom σ k) x) k = σ295 := by rw [hσ295, hσ281, hσ269, hσ258]; rfl
        unfold sCreep
        rw [ht, hx, ← h1, ← h2, hwh, ← h3, f5]
        unfold sC6
        first
          | rw [if_neg (by omega)]
          | rw [if_pos (by omega), hσ351, hσ333, hσ322]; rfl
      · refine z_aload_n dX5_creep_311 rfl ?_
        refine z_getR (b := 188) dX5_creep_312 fX5_7 (by decide) zsh187 rfl rfl ?_
        refine z_sipush dX5_creep_315 (by decide) ?_
        refine z_dup2 dX5_creep_318 ?_
        refine z_sload dX5_creep_319 (by omega) ?_
        refine z_iconst dX5_creep_320 ?_
        refine z_iadd dX5_creep_321 ?_
        refine z_sstore dX5_creep_322 (by omega) (fun σ322 hσ322 => ?_)
        refine z_aload_n dX5_creep_323 rfl ?_
        refine z_getR (b := 188) dX5_creep_324 fX5_7 (by decide) zsh187 rfl rfl ?_
        refine z_iload_n dX5_creep_327 rfl ?_
        refine z_iconst dX5_creep_328 ?_
        refine z_callS mX5_of vX5_of rfl dX5_creep_329 kX5_40 (by decide) rfl (by show _ ≤ 8; simp) (fun v329 M329 q329 => ?_)
        obtain ⟨rfl, rfl⟩ := q329
        try simp only [zpush]
        refine z_iconst dX5_creep_332 ?_
        refine z_sstore dX5_creep_333 (by omega) (fun σ333 hσ333 => ?_)
        refine z_aload_n dX5_creep_334 rfl ?_
        refine z_getR (b := 188) dX5_creep_335 fX5_7 (by decide) zsh187 rfl rfl ?_
        refine z_iload_n dX5_creep_338 rfl ?_
        refine z_iconst dX5_creep_339 ?_
        refine z_callS mX5_of vX5_of rfl dX5_creep_340 kX5_40 (by decide) rfl (by show _ ≤ 8; simp) (fun v340 M340 q340 => ?_)
        obtain ⟨rfl, rfl⟩ := q340
        try simp only [zpush]
        refine z_aload_n dX5_creep_343 rfl ?_
        refine z_getR (b := 188) dX5_creep_344 fX5_7 (by decide) zsh187 rfl rfl ?_
        refine z_sipush dX5_creep_347 (by decide) ?_
        refine z_sload dX5_creep_350 (by omega) ?_
        refine z_sstore dX5_creep_351 (by omega) (fun σ351 hσ351 => ?_)
        refine z_vret dX5_creep_352 rfl ?_
        refine ⟨rfl, ?_⟩
        have ht : sTo σ k step = to := by unfold sTo; rw [hx]; exact hto
        have f5 : sC5 (sC4 σ3 k (sFrom σ k) x) k = σ295 := by rw [hσ295, hσ281, hσ269, hσ258]; rfl
        unfold sCreep
        rw [ht, hx, ← h1, ← h2, hwh, ← h3, f5]
        unfold sC6
        first
          | rw [if_neg (by omega)]
          | rw [if_pos (by omega), hσ351, hσ333, hσ322]; rfl
    refine z_iload dX5_creep_109 rfl ?_
    refine z_if_eq (tgt := 223) dX5_creep_111 (by decide) (by decide) (fun _ => ?_) (fun h => absurd h (by decide))
    refine z_aload_n dX5_creep_223 rfl ?_
    refine z_getR (b := 188) dX5_creep_224 fX5_7 (by decide) zsh187 rfl rfl ?_
    refine z_iload_n dX5_creep_227 rfl ?_
    refine z_bipush dX5_creep_228 (by decide) ?_
    refine z_callS mX5_of vX5_of rfl dX5_creep_230 kX5_40 (by decide) rfl (by show _ ≤ 8; simp) (fun v230 M230 q230 => ?_)
    obtain ⟨rfl, rfl⟩ := q230
    try simp only [zpush]
    refine z_iconst dX5_creep_233 ?_
    refine z_sstore dX5_creep_234 (by omega) (fun σ234 hσ234 => ?_)
    refine z_aload_n dX5_creep_235 rfl ?_
    refine z_getR (b := 188) dX5_creep_236 fX5_7 (by decide) zsh187 rfl rfl ?_
    refine z_iload_n dX5_creep_239 rfl ?_
    refine z_bipush dX5_creep_240 (by decide) ?_
    refine z_callS mX5_of vX5_of rfl dX5_creep_242 kX5_40 (by decide) rfl (by show _ ≤ 8; simp) (fun v242 M242 q242 => ?_)
    obtain ⟨rfl, rfl⟩ := q242
    try simp only [zpush]
    refine z_iconst dX5_creep_245 ?_
    refine z_sstore dX5_creep_246 (by omega) (fun σ246 hσ246 => ?_)
    first
      | exact zsub' (J _ (by unfold sC3; rw [if_pos (by omega)]; unfold sCrD sCrC sCrA; first | rw [if_pos (by assumption)]; subst_vars; rfl | rw [if_neg (by assumption)]; subst_vars; rfl)) ⟨rfl, rfl, rfl, rfl, trivial⟩
      | exact zsub' (J _ (by unfold sC3; rw [if_neg (by omega)]; subst_vars; rfl)) ⟨rfl, rfl, rfl, rfl, trivial⟩
  · refine z_iconst dX5_creep_69 ?_
    refine z_goto (tgt := 74) dX5_creep_70 (by decide) ?_
    refine z_istore dX5_creep_74 (by decide) ?_
    refine z_aload_n dX5_creep_76 rfl ?_
    refine z_getR (b := 188) dX5_creep_77 fX5_7 (by decide) zsh187 rfl rfl ?_
    refine z_iload_n dX5_creep_80 rfl ?_
    refine z_iconst dX5_creep_81 ?_
    refine z_callS mX5_of vX5_of rfl dX5_creep_82 kX5_40 (by decide) rfl (by show _ ≤ 8; simp) (fun v82 M82 q82 => ?_)
    obtain ⟨rfl, rfl⟩ := q82
    try simp only [zpush]
    refine z_dup2 dX5_creep_85 ?_
    refine z_sload dX5_creep_86 (by omega) ?_
    refine z_aload_n dX5_creep_87 rfl ?_
    refine z_iload_n dX5_creep_88 rfl ?_
    refine z_iload_n dX5_creep_89 rfl ?_
    refine z_callV mX5_price (vX5_price hI hk (by omega)) rfl dX5_creep_90 kX5_93 (by decide) rfl (by show _ ≤ 8; simp) (by decide) zsh187 (by decide) rfl (fun v90 M90 q90 => ?_)
    obtain ⟨rfl, rfl⟩ := q90
    try simp only [zpush]
    refine z_isub dX5_creep_93 ?_
    refine z_sstore dX5_creep_94 (by omega) (fun σ94 hσ94 => ?_)
    refine z_aload_n dX5_creep_95 rfl ?_
    refine z_getR (b := 188) dX5_creep_96 fX5_7 (by decide) zsh187 rfl rfl ?_
    refine z_iload_n dX5_creep_99 rfl ?_
    refine z_iconst dX5_creep_100 ?_
    refine z_callS mX5_of vX5_of rfl dX5_creep_101 kX5_40 (by decide) rfl (by show _ ≤ 8; simp) (fun v101 M101 q101 => ?_)
    obtain ⟨rfl, rfl⟩ := q101
    try simp only [zpush]
    refine z_dup2 dX5_creep_104 ?_
    refine z_sload dX5_creep_105 (by omega) ?_
    refine z_iconst dX5_creep_106 ?_
    refine z_iadd dX5_creep_107 ?_
    refine z_sstore dX5_creep_108 (by omega) (fun σ108 hσ108 => ?_)
    have h1 : σ94 = sC1 σ k step := hσ94
    have h2 : σ108 = sC2 σ94 k := hσ108
    have e0 : ∀ j : Int, j ≠ 360 + 10 * k + 2 → j ≠ 360 + 10 * k + 5 → σ108 j = σ j := fun j j1 j2 => by rw [hσ108, zu_ne j2, hσ94, zu_ne j1]
    have e1 : σ108 (120 + to) = σ (120 + to) := e0 _ (by omega) (by omega)
    generalize hwh : σ108 (120 + to) = w at e1
    have J : ∀ σ3 : zS, σ3 = sC3 σ108 k (sWhy σ k to) w → zW G YX5_creep (fun v M' => v = none ∧ M' = zt M (sCreep σ k step)) 247 [(0, .inr (some 187)), (1, .inl k), (3, .inl (6 * σ (360 + 10 * k + 1) + σ (360 + 10 * k + 0))), (4, .inl x)] [] (zt M σ3) := by
      intro σ3 h3
      have h3r : σ3 (360 + 10 * k + 1) = σ (360 + 10 * k + 1) := by rw [h3, sC3_off (by omega) (by omega) (by omega) (by omega), e0 _ (by omega) (by omega)]
      refine z_aload_n dX5_creep_247 rfl ?_
      refine z_getR (b := 188) dX5_creep_248 fX5_7 (by decide) zsh187 rfl rfl ?_
      refine z_bipush dX5_creep_251 (by decide) ?_
      refine z_iload_n dX5_creep_253 rfl ?_
      refine z_iadd dX5_creep_254 ?_
      refine z_iload_n dX5_creep_255 rfl ?_
      refine z_iconst dX5_creep_256 ?_
      refine z_iadd dX5_creep_257 ?_
      refine z_sstore dX5_creep_258 (by omega) (fun σ258 hσ258 => ?_)
      refine z_aload_n dX5_creep_259 rfl ?_
      refine z_getR (b := 188) dX5_creep_260 fX5_7 (by decide) zsh187 rfl rfl ?_
      refine z_sipush dX5_creep_263 (by decide) ?_
      refine z_iload_n dX5_creep_266 rfl ?_
      refine z_iadd dX5_creep_267 ?_
      refine z_iconst dX5_creep_268 ?_
      refine z_sstore dX5_creep_269 (by omega) (fun σ269 hσ269 => ?_)
      refine z_aload_n dX5_creep_270 rfl ?_
      refine z_getR (b := 188) dX5_creep_271 fX5_7 (by decide) zsh187 rfl rfl ?_
      refine z_iload_n dX5_creep_274 rfl ?_
      refine z_iconst dX5_creep_275 ?_
      refine z_callS mX5_of vX5_of rfl dX5_creep_276 kX5_40 (by decide) rfl (by show _ ≤ 8; simp) (fun v276 M276 q276 => ?_)
      obtain ⟨rfl, rfl⟩ := q276
      try simp only [zpush]
      refine z_iload dX5_creep_279 rfl ?_
      refine z_sstore dX5_creep_281 (by omega) (fun σ281 hσ281 => ?_)
      refine z_aload_n dX5_creep_282 rfl ?_
      refine z_getR (b := 188) dX5_creep_283 fX5_7 (by decide) zsh187 rfl rfl ?_
      refine z_iload_n dX5_creep_286 rfl ?_
      refine z_iconst dX5_creep_287 ?_
      refine z_callS mX5_of vX5_of rfl dX5_creep_288 kX5_40 (by decide) rfl (by show _ ≤ 8; simp) (fun v288 M288 q288 => ?_)
      obtain ⟨rfl, rfl⟩ := q288
      try simp only [zpush]
      refine z_dup2 dX5_creep_291 ?_
      refine z_sload dX5_creep_292 (by omega) ?_
      refine z_iconst dX5_creep_293 ?_
      refine z_iadd dX5_creep_294 ?_
      refine z_sstore dX5_creep_295 (by omega) (fun σ295 hσ295 => ?_)
      have hrow : σ295 (360 + 10 * k + 1) = σ (360 + 10 * k + 1) + 1 := by rw [hσ295, zu_at, hσ281, zu_ne (by omega), hσ269, zu_ne (by omega), hσ258, zu_ne (by omega), h3r]
      refine z_aload_n dX5_creep_296 rfl ?_
      refine z_getR (b := 188) dX5_creep_297 fX5_7 (by decide) zsh187 rfl rfl ?_
      refine z_iload_n dX5_creep_300 rfl ?_
      refine z_iconst dX5_creep_301 ?_
      refine z_callS mX5_of vX5_of rfl dX5_creep_302 kX5_40 (by decide) rfl (by show _ ≤ 8; simp) (fun v302 M302 q302 => ?_)
      obtain ⟨rfl, rfl⟩ := q302
      try simp only [zpush]
      refine z_sload dX5_creep_305 (by omega) ?_
      refine z_bipush dX5_creep_306 (by decide) ?_
      refine z_icmp_ne (tgt := 352) dX5_creep_308 (by decide) (by omega) (by omega) (fun c308 => ?_) (fun c308 => ?_)
      · refine z_vret dX5_creep_352 rfl ?_
        refine ⟨rfl, ?_⟩
        have ht : sTo σ k step = to := by unfold sTo; rw [hx]; exact hto
        have f5 : sC5 (sC4 σ3 k (sFrom σ k) x) k = σ295 := by rw [hσ295, hσ281, hσ269, hσ258]; rfl
        unfold sCreep
        rw [ht, hx, ← h1, ← h2, hwh, ← h3, f5]
        unfold sC6
        first
          | rw [if_neg (by omega)]
          | rw [if_pos (by omega), hσ351, hσ333, hσ322]; rfl
      · refine z_aload_n dX5_creep_311 rfl ?_
        refine z_getR (b := 188) dX5_creep_312 fX5_7 (by decide) zsh187 rfl rfl ?_
        refine z_sipush dX5_creep_315 (by decide) ?_
        refine z_dup2 dX5_creep_318 ?_
        refine z_sload dX5_creep_319 (by omega) ?_
        refine z_iconst dX5_creep_320 ?_
        refine z_iadd dX5_creep_321 ?_
        refine z_sstore dX5_creep_322 (by omega) (fun σ322 hσ322 => ?_)
        refine z_aload_n dX5_creep_323 rfl ?_
        refine z_getR (b := 188) dX5_creep_324 fX5_7 (by decide) zsh187 rfl rfl ?_
        refine z_iload_n dX5_creep_327 rfl ?_
        refine z_iconst dX5_creep_328 ?_
        refine z_callS mX5_of vX5_of rfl dX5_creep_329 kX5_40 (by decide) rfl (by show _ ≤ 8; simp) (fun v329 M329 q329 => ?_)
        obtain ⟨rfl, rfl⟩ := q329
        try simp only [zpush]
        refine z_iconst dX5_creep_332 ?_
        refine z_sstore dX5_creep_333 (by omega) (fun σ333 hσ333 => ?_)
        refine z_aload_n dX5_creep_334 rfl ?_
        refine z_getR (b := 188) dX5_creep_335 fX5_7 (by decide) zsh187 rfl rfl ?_
        refine z_iload_n dX5_creep_338 rfl ?_
        refine z_iconst dX5_creep_339 ?_
        refine z_callS mX5_of vX5_of rfl dX5_creep_340 kX5_40 (by decide) rfl (by show _ ≤ 8; simp) (fun v340 M340 q340 => ?_)
        obtain ⟨rfl, rfl⟩ := q340
        try simp only [zpush]
        refine z_aload_n dX5_creep_343 rfl ?_
        refine z_getR (b := 188) dX5_creep_344 fX5_7 (by decide) zsh187 rfl rfl ?_
        refine z_sipush dX5_creep_347 (by decide) ?_
        refine z_sload dX5_creep_350 (by omega) ?_
        refine z_sstore dX5_creep_351 (by omega) (fun σ351 hσ351 => ?_)
        refine z_vret dX5_creep_352 rfl ?_
        refine ⟨rfl, ?_⟩
        have ht : sTo σ k step = to := by unfold sTo; rw [hx]; exact hto
        have f5 : sC5 (sC4 σ3 k (sFrom σ k) x) k = σ295 := by rw [hσ295, hσ281, hσ269, hσ258]; rfl
        unfold sCreep
        rw [ht, hx, ← h1, ← h2, hwh, ← h3, f5]
        unfold sC6
        first
          | rw [if_neg (by omega)]
          | rw [if_pos (by omega), hσ351, hσ333, hσ322]; rfl
    refine z_iload dX5_creep_109 rfl ?_
    refine z_if_eq (tgt := 223) dX5_creep_111 (by decide) (by decide) (fun h => absurd h (by decide)) (fun _ => ?_)
    refine z_aload_n dX5_creep_114 rfl ?_
    refine z_getR (b := 188) dX5_creep_115 fX5_7 (by decide) zsh187 rfl rfl ?_
    refine z_bipush dX5_creep_118 (by decide) ?_
    refine z_iload dX5_creep_120 rfl ?_
    refine z_iadd dX5_creep_122 ?_
    refine z_sload dX5_creep_123 (by omega) ?_
    rw [hwh]
    refine z_istore dX5_creep_124 (by decide) ?_
    refine z_aload_n dX5_creep_126 rfl ?_
    refine z_getR (b := 188) dX5_creep_127 fX5_7 (by decide) zsh187 rfl rfl ?_
    refine z_iload_n dX5_creep_130 rfl ?_
    refine z_bipush dX5_creep_131 (by decide) ?_
    refine z_callS mX5_of vX5_of rfl dX5_creep_133 kX5_40 (by decide) rfl (by show _ ≤ 8; simp) (fun v133 M133 q133 => ?_)
    obtain ⟨rfl, rfl⟩ := q133
    try simp only [zpush]
    refine z_aload_n dX5_creep_136 rfl ?_
    refine z_getR (b := 188) dX5_creep_137 fX5_7 (by decide) zsh187 rfl rfl ?_
    refine z_iload_n dX5_creep_140 rfl ?_
    refine z_bipush dX5_creep_141 (by decide) ?_
    refine z_callS mX5_of vX5_of rfl dX5_creep_143 kX5_40 (by decide) rfl (by show _ ≤ 8; simp) (fun v143 M143 q143 => ?_)
    obtain ⟨rfl, rfl⟩ := q143
    try simp only [zpush]
    refine z_sload dX5_creep_146 (by omega) ?_
    refine z_iload dX5_creep_147 rfl ?_
    have e8 := e0 (360 + 10 * k + 8) (by omega) (by omega)
    have w0 : sWhy σ k to = 0 := by omega
    have hw1 : 1 ≤ w := by
            unfold sWhy at w0
            split at w0
            · omega
            · omega
    refine z_icmp_ne (tgt := 168) dX5_creep_149 (by decide) (by omega) (by omega) (fun c149 => ?_) (fun c149 => ?_)
    · refine z_iconst dX5_creep_168 ?_
      refine z_sstore dX5_creep_169 (by omega) (fun σ169 hσ169 => ?_)
      refine z_aload_n dX5_creep_170 rfl ?_
      refine z_getR (b := 188) dX5_creep_171 fX5_7 (by decide) zsh187 rfl rfl ?_
      refine z_iload_n dX5_creep_174 rfl ?_
      refine z_bipush dX5_creep_175 (by decide) ?_
      refine z_callS mX5_of vX5_of rfl dX5_creep_177 kX5_40 (by decide) rfl (by show _ ≤ 8; simp) (fun v177 M177 q177 => ?_)
      obtain ⟨rfl, rfl⟩ := q177
      try simp only [zpush]
      refine z_iload dX5_creep_180 rfl ?_
      refine z_sstore dX5_creep_182 (by omega) (fun σ182 hσ182 => ?_)
      refine z_aload_n dX5_creep_183 rfl ?_
      refine z_getR (b := 188) dX5_creep_184 fX5_7 (by decide) zsh187 rfl rfl ?_
      refine z_iload_n dX5_creep_187 rfl ?_
      refine z_bipush dX5_creep_188 (by decide) ?_
      refine z_callS mX5_of vX5_of rfl dX5_creep_190 kX5_40 (by decide) rfl (by show _ ≤ 8; simp) (fun v190 M190 q190 => ?_)
      obtain ⟨rfl, rfl⟩ := q190
      try simp only [zpush]
      refine z_dup2 dX5_creep_193 ?_
      refine z_sload dX5_creep_194 (by omega) ?_
      refine z_iconst dX5_creep_195 ?_
      refine z_iadd dX5_creep_196 ?_
      refine z_sstore dX5_creep_197 (by omega) (fun σ197 hσ197 => ?_)
      refine z_aload_n dX5_creep_198 rfl ?_
      refine z_getR (b := 188) dX5_creep_199 fX5_7 (by decide) zsh187 rfl rfl ?_
      refine z_sipush dX5_creep_202 (by decide) ?_
      refine z_bipush dX5_creep_205 (by decide) ?_
      refine z_iload_n dX5_creep_207 rfl ?_
      refine z_imul dX5_creep_208 ?_
      refine z_iadd dX5_creep_209 ?_
      refine z_iload dX5_creep_210 rfl ?_
      refine z_iadd dX5_creep_212 ?_
      refine z_iconst dX5_creep_213 ?_
      refine z_isub dX5_creep_214 ?_
      refine z_dup2 dX5_creep_215 ?_
      refine z_sload dX5_creep_216 (by omega) ?_
      refine z_iconst dX5_creep_217 ?_
      refine z_iadd dX5_creep_218 ?_
      refine z_sstore dX5_creep_219 (by omega) (fun σ219 hσ219 => ?_)
      refine z_goto (tgt := 247) dX5_creep_220 (by decide) ?_
      first
        | exact zsub' (J _ (by unfold sC3; rw [if_pos (by omega)]; unfold sCrD sCrC sCrA; first | rw [if_pos (by assumption)]; subst_vars; rfl | rw [if_neg (by assumption)]; subst_vars; rfl)) ⟨rfl, rfl, rfl, rfl, trivial⟩
        | exact zsub' (J _ (by unfold sC3; rw [if_neg (by omega)]; subst_vars; rfl)) ⟨rfl, rfl, rfl, rfl, trivial⟩
    · refine z_aload_n dX5_creep_152 rfl ?_
      refine z_getR (b := 188) dX5_creep_153 fX5_7 (by decide) zsh187 rfl rfl ?_
      refine z_iload_n dX5_creep_156 rfl ?_
      refine z_bipush dX5_creep_157 (by decide) ?_
      refine z_callS mX5_of vX5_of rfl dX5_creep_159 kX5_40 (by decide) rfl (by show _ ≤ 8; simp) (fun v159 M159 q159 => ?_)
      obtain ⟨rfl, rfl⟩ := q159
      try simp only [zpush]
      refine z_sload dX5_creep_162 (by omega) ?_
      refine z_iconst dX5_creep_163 ?_
      refine z_iadd dX5_creep_164 ?_
      refine z_goto (tgt := 169) dX5_creep_165 (by decide) ?_
      refine z_sstore dX5_creep_169 (by omega) (fun σ169 hσ169 => ?_)
      refine z_aload_n dX5_creep_170 rfl ?_
      refine z_getR (b := 188) dX5_creep_171 fX5_7 (by decide) zsh187 rfl rfl ?_
      refine z_iload_n dX5_creep_174 rfl ?_
      refine z_bipush dX5_creep_175 (by decide) ?_
      refine z_callS mX5_of vX5_of rfl dX5_creep_177 kX5_40 (by decide) rfl (by show _ ≤ 8; simp) (fun v177 M177 q177 => ?_)
      obtain ⟨rfl, rfl⟩ := q177
      try simp only [zpush]
      refine z_iload dX5_creep_180 rfl ?_
      refine z_sstore dX5_creep_182 (by omega) (fun σ182 hσ182 => ?_)
      refine z_aload_n dX5_creep_183 rfl ?_
      refine z_getR (b := 188) dX5_creep_184 fX5_7 (by decide) zsh187 rfl rfl ?_
      refine z_iload_n dX5_creep_187 rfl ?_
      refine z_bipush dX5_creep_188 (by decide) ?_
      refine z_callS mX5_of vX5_of rfl dX5_creep_190 kX5_40 (by decide) rfl (by show _ ≤ 8; simp) (fun v190 M190 q190 => ?_)
      obtain ⟨rfl, rfl⟩ := q190
      try simp only [zpush]
      refine z_dup2 dX5_creep_193 ?_
      refine z_sload dX5_creep_194 (by omega) ?_
      refine z_iconst dX5_creep_195 ?_
      refine z_iadd dX5_creep_196 ?_
      refine z_sstore dX5_creep_197 (by omega) (fun σ197 hσ197 => ?_)
      refine z_aload_n dX5_creep_198 rfl ?_
      refine z_getR (b := 188) dX5_creep_199 fX5_7 (by decide) zsh187 rfl rfl ?_
      refine z_sipush dX5_creep_202 (by decide) ?_
      refine z_bipush dX5_creep_205 (by decide) ?_
      refine z_iload_n dX5_creep_207 rfl ?_
      refine z_imul dX5_creep_208 ?_
      refine z_iadd dX5_creep_209 ?_
      refine z_iload dX5_creep_210 rfl ?_
      refine z_iadd dX5_creep_212 ?_
      refine z_iconst dX5_creep_213 ?_
      refine z_isub dX5_creep_214 ?_
      refine z_dup2 dX5_creep_215 ?_
      refine z_sload dX5_creep_216 (by omega) ?_
      refine z_iconst dX5_creep_217 ?_
      refine z_iadd dX5_creep_218 ?_
      refine z_sstore dX5_creep_219 (by omega) (fun σ219 hσ219 => ?_)
      refine z_goto (tgt := 247) dX5_creep_220 (by decide) ?_
      first
        | exact zsub' (J _ (by unfold sC3; rw [if_pos (by omega)]; unfold sCrD sCrC sCrA; first | rw [if_pos (by assumption)]; subst_vars; rfl | rw [if_neg (by assumption)]; subst_vars; rfl)) ⟨rfl, rfl, rfl, rfl, trivial⟩
        | exact zsub' (J _ (by unfold sC3; rw [if_neg (by omega)]; subst_vars; rfl)) ⟨rfl, rfl, rfl, rfl, trivial⟩
