theorem vX5_dries {G : zG} {M : zM} {σ : zS} (hI : zI σ) : zCall G yX5_dries YX5_dries [.inr (some 187)] (zt M σ) (fun v M' => v = none ∧ M' = zt M (sDry σ)) := by
  refine zEnter (by decide +kernel) rfl (Nat.le_of_ble_eq_true rfl) ?_
  refine z_iconst dX5_dries_0 ?_
  refine z_istore_n dX5_dries_1 (by decide) ?_
  have L : ∀ (n : Nat) (c : Int) (τ : zS), (0 ≤ c ∧ c ≤ 120) → c + n = 121 → zI τ → zfor sDryF c 120 τ = sDry σ → zW G YX5_dries (fun v M' => v = none ∧ M' = zt M (sDry σ)) 2 [(1, .inl c), (0, .inr (some 187))] [] (zt M τ) := by
    intro n
    induction n with
    | zero => intro c τ hc hcn hT he; exfalso; omega
    | succ n ih =>
      intro c τ hc hcn hT he
      refine z_iload_n dX5_dries_2 rfl ?_
      refine z_bipush dX5_dries_3 (by decide) ?_
      refine z_icmp_ge (tgt := 68) dX5_dries_5 (by decide) (by omega) (by omega) (fun c5 => ?_) (fun c5 => ?_)
      · rw [zfor_end (by omega)] at he
        refine z_vret dX5_dries_68 rfl ?_
        exact ⟨rfl, by rw [he]⟩
      · have hc9 := hT.2.1 c (by omega) (by omega)
        unfold zIc at hc9
        have hs9 := hT.1
        unfold zIs at hs9
        have hI2 := zI_dryF hT (c := c) (by omega)
        rw [zfor_step (by omega)] at he
        refine z_aload_n dX5_dries_8 rfl ?_
        refine z_getR (b := 188) dX5_dries_9 fX5_7 (by decide) zsh187 rfl rfl ?_
        refine z_bipush dX5_dries_12 (by decide) ?_
        refine z_iload_n dX5_dries_14 rfl ?_
        refine z_iadd dX5_dries_15 ?_
        refine z_sload dX5_dries_16 (by omega) ?_
        refine z_if_le (tgt := 62) dX5_dries_17 (by decide) (by omega) (fun c17 => ?_) (fun c17 => ?_)
        · refine z_iinc dX5_dries_62 rfl (by decide) ?_
          refine z_goto (tgt := 2) dX5_dries_65 (by decide) ?_
          first
            | (unfold sDryF at he hI2; rw [if_neg (by omega)] at he hI2; exact zsub' (ih (c + 1) _ (by omega) (by omega) hI2 he) ⟨rfl, rfl, trivial⟩)
            | (rw [← hσ50, ← hσ61] at he hI2; exact zsub' (ih (c + 1) σ61 (by omega) (by omega) hI2 he) ⟨rfl, rfl, trivial⟩)
        · refine z_aload_n dX5_dries_20 rfl ?_
          refine z_getR (b := 188) dX5_dries_21 fX5_7 (by decide) zsh187 rfl rfl ?_
          refine z_sipush dX5_dries_24 (by decide) ?_
          refine z_iload_n dX5_dries_27 rfl ?_
          refine z_iadd dX5_dries_28 ?_
          refine z_sload dX5_dries_29 (by omega) ?_
          refine z_aload_n dX5_dries_30 rfl ?_
          refine z_getR (b := 188) dX5_dries_31 fX5_7 (by decide) zsh187 rfl rfl ?_
          refine z_sipush dX5_dries_34 (by decide) ?_
          refine z_sload dX5_dries_37 (by omega) ?_
          refine z_icmp_le (tgt := 62) dX5_dries_38 (by decide) (by omega) (by omega) (fun c38 => ?_) (fun c38 => ?_)
          · refine z_iinc dX5_dries_62 rfl (by decide) ?_
            refine z_goto (tgt := 2) dX5_dries_65 (by decide) ?_
            first
              | (unfold sDryF at he hI2; rw [if_neg (by omega)] at he hI2; exact zsub' (ih (c + 1) _ (by omega) (by omega) hI2 he) ⟨rfl, rfl, trivial⟩)
              | (rw [← hσ50, ← hσ61] at he hI2; exact zsub' (ih (c + 1) σ61 (by omega) (by omega) hI2 he) ⟨rfl, rfl, trivial⟩)
          · unfold sDryF at he hI2
            rw [if_pos (by omega)] at he hI2
            refine z_aload_n dX5_dries_41 rfl ?_
            refine z_getR (b := 188) dX5_dries_42 fX5_7 (by decide) zsh187 rfl rfl ?_
            refine z_bipush dX5_dries_45 (by decide) ?_
            refine z_iload_n dX5_dries_47 rfl ?_
            refine z_iadd dX5_dries_48 ?_
            refine z_iconst dX5_dries_49 ?_
            refine z_sstore dX5_dries_50 (by omega) (fun σ50 hσ50 => ?_)
            refine z_aload_n dX5_dries_51 rfl ?_
            refine z_getR (b := 188) dX5_dries_52 fX5_7 (by decide) zsh187 rfl rfl ?_
            refine z_sipush dX5_dries_55 (by decide) ?_
            refine z_iload_n dX5_dries_58 rfl ?_
            refine z_iadd dX5_dries_59 ?_
            refine z_iconst dX5_dries_60 ?_
            refine z_sstore dX5_dries_61 (by omega) (fun σ61 hσ61 => ?_)
            refine z_iinc dX5_dries_62 rfl (by decide) ?_
            refine z_goto (tgt := 2) dX5_dries_65 (by decide) ?_
            first
              | (unfold sDryF at he hI2; rw [if_neg (by omega)] at he hI2; exact zsub' (ih (c + 1) _ (by omega) (by omega) hI2 he) ⟨rfl, rfl, trivial⟩)
              | (rw [← hσ50, ← hσ61] at he hI2; exact zsub' (ih (c + 1) σ61 (by omega) (by omega) hI2 he) ⟨rfl, rfl, trivial⟩)
  exact zsub' (L 121 0 σ (by omega) (by omega) hI rfl) ⟨rfl, rfl, trivial⟩

theorem vX5_turn {G : zG} {M : zM} {σ : zS} (hA : zA σ) (ht : 0 ≤ σ 536 ∧ σ 536 ≤ 1000000) : zCall G yX5_turn YX5_turn [.inr (some 187)] (zt M σ) (fun v M' => v = none ∧ M' = zt M (sTurn σ)) := by
  refine zEnter (by decide +kernel) rfl (Nat.le_of_ble_eq_true rfl) ?_
  have hI := hA.1
  have hs9 := hI.1
  unfold zIs at hs9
  refine z_iconst dX5_turn_0 ?_
  refine z_istore_n dX5_turn_1 (by decide) ?_
  have L : ∀ (n : Nat) (k : Int) (τ : zS), (0 ≤ k ∧ k ≤ σ 535) → k + n = σ 535 + 1 → zA τ → τ 535 = σ 535 → zfor (fun k s => sAct s k) k (σ 535) τ = sAll σ → zW G YX5_turn (fun v M' => v = none ∧ M' = zt M (sTurn σ)) 2 [(1, .inl k), (0, .inr (some 187))] [] (zt M τ) := by
    intro n
    induction n with
    | zero => intro k τ hk hkn hA2 hm he; exfalso; omega
    | succ n ih =>
      intro k τ hk hkn hA2 hm he
      refine z_iload_n dX5_turn_2 rfl ?_
      refine z_aload_n dX5_turn_3 rfl ?_
      refine z_getR (b := 188) dX5_turn_4 fX5_7 (by decide) zsh187 rfl rfl ?_
      refine z_sipush dX5_turn_7 (by decide) ?_
      refine z_sload dX5_turn_10 (by omega) ?_
      refine z_icmp_ge (tgt := 129) dX5_turn_11 (by decide) (by omega) (by omega) (fun c11 => ?_) (fun c11 => ?_)
      · rw [zfor_end (by omega)] at he
        have hB := zA_all hA
        rw [he]
        generalize hα : sAll σ = α at hB
        refine z_iconst dX5_turn_129 ?_
        refine z_istore_n dX5_turn_130 (by decide) ?_
        have L2 : ∀ (n : Nat) (c : Int) (τ : zS), (0 ≤ c ∧ c ≤ 120) → c + n = 121 → (∀ j : Int, j < 240 → τ j = α j) → zfor sAgeF c 120 τ = sAge α → zW G YX5_turn (fun v M' => v = none ∧ M' = zt M (sTurn σ)) 131 [(1, .inl c), (0, .inr (some 187))] [] (zt M τ) := by
          intro n
          induction n with
          | zero => intro c τ hc hcn hT he; exfalso; omega
          | succ n ih =>
            intro c τ hc hcn hT he
            refine z_iload_n dX5_turn_131 rfl ?_
            refine z_bipush dX5_turn_132 (by decide) ?_
            refine z_icmp_ge (tgt := 173) dX5_turn_134 (by decide) (by omega) (by omega) (fun c134 => ?_) (fun c134 => ?_)
            · rw [zfor_end (by omega)] at he
              rw [he]
              refine z_aload_n dX5_turn_173 rfl ?_
              refine z_callV mX5_dries (vX5_dries (zI_age hB.1.1 hB.1.2.1)) rfl dX5_turn_174 kX5_84 (by decide) rfl (by show _ ≤ 8; simp) (by decide) zsh187 (by decide) rfl (fun v174 M174 q174 => ?_)
              obtain ⟨rfl, rfl⟩ := q174
              try simp only [zpush]
              have hD : zA (sDry (sAge α)) := zA_dry (zI_age hB.1.1 hB.1.2.1) (zZ_age hB.1.1 hB.1.2.2)
              have hD5 : ∀ j : Int, 531 ≤ j → j < 537 → sDry (sAge α) j = σ j := fun j q1 q2 => by rw [sDry_o _ (by omega), sAge_o _ (by omega)]; exact hB.2 j q1 q2
              generalize hδ : sDry (sAge α) = δ at hD hD5
              refine z_aload_n dX5_turn_177 rfl ?_
              refine z_getR (b := 188) dX5_turn_178 fX5_7 (by decide) zsh187 rfl rfl ?_
              refine z_sipush dX5_turn_181 (by decide) ?_
              refine z_dup2 dX5_turn_184 ?_
              refine z_sload dX5_turn_185 (by omega) ?_
              refine z_iconst dX5_turn_186 ?_
              refine z_iadd dX5_turn_187 ?_
              refine z_sstore dX5_turn_188 (by omega) (fun σ188 hσ188 => ?_)
              have hτ : σ188 = sTick δ := hσ188
              have e6 : σ188 536 = σ 536 + 1 := by rw [hσ188, zu_at, hD5 536 (by omega) (by omega)]
              have e4 : σ188 534 = σ 534 := by rw [hσ188, zu_ne (by omega), hD5 534 (by omega) (by omega)]
              have hE : zA σ188 := by rw [hτ]; exact zA_tick hD
              have J : ∀ g : Int, g = sG σ188 → zW G YX5_turn (fun v M' => v = none ∧ M' = zt M (sTurn σ)) 215 [(1, .inl g), (0, .inr (some 187))] [] (zt M σ188) := by
                intro g hg
                have hgr : g = 0 ∨ g = 1 := by rw [hg]; unfold sG; split <;> omega
                refine z_iconst dX5_turn_215 ?_
                refine z_istore_n dX5_turn_216 (by decide) ?_
                have L3 : ∀ (n : Nat) (c : Int) (τ : zS), (0 ≤ c ∧ c ≤ 120) → c + n = 121 → zI τ → zfor (sGrowF g) c 120 τ = sGrow g σ188 → zW G YX5_turn (fun v M' => v = none ∧ M' = zt M (sTurn σ)) 217 [(2, .inl c), (1, .inl g), (0, .inr (some 187))] [] (zt M τ) := by
                  intro n
                  induction n with
                  | zero => intro c τ hc hcn hT he; exfalso; omega
                  | succ n ih =>
                    intro c τ hc hcn hT he
                    refine z_iload_n dX5_turn_217 rfl ?_
                    refine z_bipush dX5_turn_218 (by decide) ?_
                    refine z_icmp_ge (tgt := 274) dX5_turn_220 (by decide) (by omega) (by omega) (fun c220 => ?_) (fun c220 => ?_)
                    · rw [zfor_end (by omega)] at he
                      refine z_vret dX5_turn_274 rfl ?_
                      refine ⟨rfl, ?_⟩
                      rw [he]
                      unfold sTurn
                      rw [hα, hδ, ← hτ, ← hg]
                    · have hc9 := hT.2.1 c (by omega) (by omega)
                      unfold zIc at hc9
                      rw [zfor_step (by omega)] at he
                      have hz : τ (0 + c) = τ c := by rw [Int.zero_add]
                      refine z_aload_n dX5_turn_223 rfl ?_
                      refine z_getR (b := 188) dX5_turn_224 fX5_7 (by decide) zsh187 rfl rfl ?_
                      refine z_iconst dX5_turn_227 ?_
                      refine z_iload_n dX5_turn_228 rfl ?_
                      refine z_iadd dX5_turn_229 ?_
                      refine z_dup2 dX5_turn_230 ?_
                      refine z_sload dX5_turn_231 (by omega) ?_
                      refine z_iload_n dX5_turn_232 rfl ?_
                      refine z_if_eq (tgt := 265) dX5_turn_233 (by decide) (by omega) (fun c233 => ?_) (fun c233 => ?_)
                      · refine z_iconst dX5_turn_265 ?_
                        refine z_iadd dX5_turn_266 ?_
                        refine z_sstore dX5_turn_267 (by omega) (fun σ267 hσ267 => ?_)
                        refine z_iinc dX5_turn_268 rfl (by decide) ?_
                        refine z_goto (tgt := 217) dX5_turn_271 (by decide) ?_
                        have e2 : sGrowF g c τ = σ267 := by unfold sGrowF; first | rw [if_pos (by omega), hσ267] | rw [if_neg (by omega), hσ267]
                        exact zsub' (ih (c + 1) σ267 (by omega) (by omega) (by rw [hσ267, Int.zero_add]; exact zI_fr hT (by omega) (by omega)) (by rw [← e2]; exact he)) ⟨rfl, rfl, rfl, trivial⟩
                      · refine z_aload_n dX5_turn_236 rfl ?_
                        refine z_getR (b := 188) dX5_turn_237 fX5_7 (by decide) zsh187 rfl rfl ?_
                        refine z_bipush dX5_turn_240 (by decide) ?_
                        refine z_iload_n dX5_turn_242 rfl ?_
                        refine z_iadd dX5_turn_243 ?_
                        refine z_sload dX5_turn_244 (by omega) ?_
                        refine z_if_ne (tgt := 265) dX5_turn_245 (by decide) (by omega) (fun c245 => ?_) (fun c245 => ?_)
                        · refine z_iconst dX5_turn_265 ?_
                          refine z_iadd dX5_turn_266 ?_
                          refine z_sstore dX5_turn_267 (by omega) (fun σ267 hσ267 => ?_)
                          refine z_iinc dX5_turn_268 rfl (by decide) ?_
                          refine z_goto (tgt := 217) dX5_turn_271 (by decide) ?_
                          have e2 : sGrowF g c τ = σ267 := by unfold sGrowF; first | rw [if_pos (by omega), hσ267] | rw [if_neg (by omega), hσ267]
                          exact zsub' (ih (c + 1) σ267 (by omega) (by omega) (by rw [hσ267, Int.zero_add]; exact zI_fr hT (by omega) (by omega)) (by rw [← e2]; exact he)) ⟨rfl, rfl, rfl, trivial⟩
                        · refine z_aload_n dX5_turn_248 rfl ?_
                          refine z_getR (b := 188) dX5_turn_249 fX5_7 (by decide) zsh187 rfl rfl ?_
                          refine z_iconst dX5_turn_252 ?_
                          refine z_iload_n dX5_turn_253 rfl ?_
                          refine z_iadd dX5_turn_254 ?_
                          refine z_sload dX5_turn_255 (by omega) ?_
                          refine z_bipush dX5_turn_256 (by decide) ?_
                          refine z_icmp_ge (tgt := 265) dX5_turn_258 (by decide) (by omega) (by omega) (fun c258 => ?_) (fun c258 => ?_)
                          · refine z_iconst dX5_turn_265 ?_
                            refine z_iadd dX5_turn_266 ?_
                            refine z_sstore dX5_turn_267 (by omega) (fun σ267 hσ267 => ?_)
                            refine z_iinc dX5_turn_268 rfl (by decide) ?_
                            refine z_goto (tgt := 217) dX5_turn_271 (by decide) ?_
                            have e2 : sGrowF g c τ = σ267 := by unfold sGrowF; first | rw [if_pos (by omega), hσ267] | rw [if_neg (by omega), hσ267]
                            exact zsub' (ih (c + 1) σ267 (by omega) (by omega) (by rw [hσ267, Int.zero_add]; exact zI_fr hT (by omega) (by omega)) (by rw [← e2]; exact he)) ⟨rfl, rfl, rfl, trivial⟩
                          · refine z_iconst dX5_turn_261 ?_
                            refine z_goto (tgt := 266) dX5_turn_262 (by decide) ?_
                            refine z_iadd dX5_turn_266 ?_
                            refine z_sstore dX5_turn_267 (by omega) (fun σ267 hσ267 => ?_)
                            refine z_iinc dX5_turn_268 rfl (by decide) ?_
                            refine z_goto (tgt := 217) dX5_turn_271 (by decide) ?_
                            have e2 : sGrowF g c τ = σ267 := by unfold sGrowF; first | rw [if_pos (by omega), hσ267] | rw [if_neg (by omega), hσ267]
                            exact zsub' (ih (c + 1) σ267 (by omega) (by omega) (by rw [hσ267, Int.zero_add]; exact zI_fr hT (by omega) (by omega)) (by rw [← e2]; exact he)) ⟨rfl, rfl, rfl, trivial⟩
                exact zsub' (L3 121 0 σ188 (by omega) (by omega) hE.1 rfl) ⟨rfl, rfl, rfl, trivial⟩
              refine z_aload_n dX5_turn_189 rfl ?_
              refine z_getR (b := 188) dX5_turn_190 fX5_7 (by decide) zsh187 rfl rfl ?_
              refine z_sipush dX5_turn_193 (by decide) ?_
              refine z_sload dX5_turn_196 (by omega) ?_
              refine z_aload_n dX5_turn_197 rfl ?_
              refine z_getR (b := 188) dX5_turn_198 fX5_7 (by decide) zsh187 rfl rfl ?_
              refine z_sipush dX5_turn_201 (by decide) ?_
              refine z_sload dX5_turn_204 (by omega) ?_
              refine z_irem dX5_turn_205 (by omega) (by omega) ?_
              refine z_if_ne (tgt := 213) dX5_turn_206 (by decide) (by have := Int.emod_nonneg (σ188 536) (show σ188 534 ≠ 0 by omega); have := Int.emod_lt_of_pos (σ188 536) (show 0 < σ188 534 by omega); omega) (fun c206 => ?_) (fun c206 => ?_)
              · refine z_iconst dX5_turn_213 ?_
                refine z_istore_n dX5_turn_214 (by decide) ?_
                exact zsub' (J _ (by unfold sG; first | rw [if_pos (by omega)] | rw [if_neg (by omega)])) ⟨rfl, rfl, trivial⟩
              · refine z_iconst dX5_turn_209 ?_
                refine z_goto (tgt := 214) dX5_turn_210 (by decide) ?_
                refine z_istore_n dX5_turn_214 (by decide) ?_
                exact zsub' (J _ (by unfold sG; first | rw [if_pos (by omega)] | rw [if_neg (by omega)])) ⟨rfl, rfl, trivial⟩
            · have hc9 := hB.1.1.2.1 c (by omega) (by omega)
              unfold zIc at hc9
              have hT1 := hT (120 + c) (by omega)
              rw [zfor_step (by omega)] at he
              refine z_aload_n dX5_turn_137 rfl ?_
              refine z_getR (b := 188) dX5_turn_138 fX5_7 (by decide) zsh187 rfl rfl ?_
              refine z_sipush dX5_turn_141 (by decide) ?_
              refine z_iload_n dX5_turn_144 rfl ?_
              refine z_iadd dX5_turn_145 ?_
              refine z_dup2 dX5_turn_146 ?_
              refine z_sload dX5_turn_147 (by omega) ?_
              refine z_aload_n dX5_turn_148 rfl ?_
              refine z_getR (b := 188) dX5_turn_149 fX5_7 (by decide) zsh187 rfl rfl ?_
              refine z_bipush dX5_turn_152 (by decide) ?_
              refine z_iload_n dX5_turn_154 rfl ?_
              refine z_iadd dX5_turn_155 ?_
              refine z_sload dX5_turn_156 (by omega) ?_
              refine z_if_le (tgt := 164) dX5_turn_157 (by decide) (by omega) (fun c157 => ?_) (fun c157 => ?_)
              · refine z_iconst dX5_turn_164 ?_
                refine z_iadd dX5_turn_165 ?_
                refine z_sstore dX5_turn_166 (by omega) (fun σ166 hσ166 => ?_)
                refine z_iinc dX5_turn_167 rfl (by decide) ?_
                refine z_goto (tgt := 131) dX5_turn_170 (by decide) ?_
                have e2 : sAgeF c τ = σ166 := by unfold sAgeF; first | rw [if_pos (by omega), hσ166] | rw [if_neg (by omega), hσ166]
                exact zsub' (ih (c + 1) σ166 (by omega) (by omega) (fun j hj => by rw [hσ166, zu_ne (by omega)]; exact hT j hj) (by rw [← e2]; exact he)) ⟨rfl, rfl, trivial⟩
              · refine z_iconst dX5_turn_160 ?_
                refine z_goto (tgt := 165) dX5_turn_161 (by decide) ?_
                refine z_iadd dX5_turn_165 ?_
                refine z_sstore dX5_turn_166 (by omega) (fun σ166 hσ166 => ?_)
                refine z_iinc dX5_turn_167 rfl (by decide) ?_
                refine z_goto (tgt := 131) dX5_turn_170 (by decide) ?_
                have e2 : sAgeF c τ = σ166 := by unfold sAgeF; first | rw [if_pos (by omega), hσ166] | rw [if_neg (by omega), hσ166]
                exact zsub' (ih (c + 1) σ166 (by omega) (by omega) (fun j hj => by rw [hσ166, zu_ne (by omega)]; exact hT j hj) (by rw [← e2]; exact he)) ⟨rfl, rfl, trivial⟩
        exact zsub' (L2 121 0 α (by omega) (by omega) (fun j _ => rfl) rfl) ⟨rfl, rfl, trivial⟩
      · have hact := zA_act hA2 (k := k) (by omega)
        have hm2 := hact.2 535 (by omega) (by omega)
        have hk9 := hA2.1.2.2 k (by omega) (by omega)
        unfold zIk at hk9
        have hs9 := hA2.1.1
        unfold zIs at hs9
        rw [zfor_step (by omega)] at he
        refine z_aload_n dX5_turn_14 rfl ?_
        refine z_iload_n dX5_turn_15 rfl ?_
        refine z_callV mX5_creeps (vX5_creeps (by omega) hA2.1) rfl dX5_turn_16 kX5_48 (by decide) rfl (by show _ ≤ 8; simp) (by decide) zsh187 (by decide) rfl (fun v16 M16 q16 => ?_)
        obtain ⟨rfl, b16, rfl, h16⟩ := q16
        try simp only [zpush]
        refine z_if_eq (tgt := 123) dX5_turn_19 (by decide) (by omega) (fun c19 => ?_) (fun c19 => ?_)
        · refine z_iinc dX5_turn_123 rfl (by decide) ?_
          refine z_goto (tgt := 2) dX5_turn_126 (by decide) ?_
          have hacts : ∀ τ2 : zS, sAct τ k = τ2 → zW G YX5_turn (fun v M' => v = none ∧ M' = zt M (sTurn σ)) 2 [(1, .inl (k + 1)), (0, .inr (some 187))] [] (zt M τ2) := fun τ2 e2 => ih (k + 1) τ2 (by omega) (by omega) (e2 ▸ hact.1) (by rw [← e2, hm2, hm]) (by rw [← e2]; exact he)
          first
            | exact zsub' (hacts _ (by unfold sAct; rw [if_neg (by omega)])) ⟨rfl, rfl, trivial⟩
            | exact zsub' (hacts _ (by unfold sAct; rw [if_pos (by omega), if_pos (by omega)])) ⟨rfl, rfl, trivial⟩
            | exact zsub' (hacts _ (by unfold sAct; rw [if_pos (by omega), if_neg (by omega)]; unfold sRest sC8; first | rw [if_pos (by omega)]; subst_vars; rfl | rw [if_neg (by omega)]; subst_vars; rfl)) ⟨rfl, rfl, trivial⟩
        · refine z_aload_n dX5_turn_22 rfl ?_
          refine z_iload_n dX5_turn_23 rfl ?_
          refine z_callV mX5_chooses (vX5_chooses hA2.1 (by omega)) rfl dX5_turn_24 kX5_96 (by decide) rfl (by show _ ≤ 8; simp) (by decide) zsh187 (by decide) rfl (fun v24 M24 q24 => ?_)
          obtain ⟨rfl, rfl⟩ := q24
          try simp only [zpush]
          have hcr := sCh_r τ k
          refine z_istore_n dX5_turn_27 (by decide) ?_
          refine z_iload_n dX5_turn_28 rfl ?_
          refine z_iconst dX5_turn_29 ?_
          refine z_icmp_ge (tgt := 42) dX5_turn_30 (by decide) (by omega) (by omega) (fun c30 => ?_) (fun c30 => ?_)
          · refine z_aload_n dX5_turn_42 rfl ?_
            refine z_getR (b := 188) dX5_turn_43 fX5_7 (by decide) zsh187 rfl rfl ?_
            refine z_iload_n dX5_turn_46 rfl ?_
            refine z_iconst dX5_turn_47 ?_
            refine z_callS mX5_of vX5_of rfl dX5_turn_48 kX5_40 (by decide) rfl (by show _ ≤ 8; simp) (fun v48 M48 q48 => ?_)
            obtain ⟨rfl, rfl⟩ := q48
            try simp only [zpush]
            refine z_sload dX5_turn_51 (by omega) ?_
            refine z_aload_n dX5_turn_52 rfl ?_
            refine z_getR (b := 188) dX5_turn_53 fX5_7 (by decide) zsh187 rfl rfl ?_
            refine z_sipush dX5_turn_56 (by decide) ?_
            refine z_sload dX5_turn_59 (by omega) ?_
            refine z_iadd dX5_turn_60 ?_
            refine z_istore_n dX5_turn_61 (by decide) ?_
            refine z_aload_n dX5_turn_62 rfl ?_
            refine z_getR (b := 188) dX5_turn_63 fX5_7 (by decide) zsh187 rfl rfl ?_
            refine z_iload_n dX5_turn_66 rfl ?_
            refine z_iconst dX5_turn_67 ?_
            refine z_callS mX5_of vX5_of rfl dX5_turn_68 kX5_40 (by decide) rfl (by show _ ≤ 8; simp) (fun v68 M68 q68 => ?_)
            obtain ⟨rfl, rfl⟩ := q68
            try simp only [zpush]
            refine z_iload_n dX5_turn_71 rfl ?_
            refine z_bipush dX5_turn_72 (by decide) ?_
            refine z_icmp_le (tgt := 82) dX5_turn_74 (by decide) (by omega) (by omega) (fun c74 => ?_) (fun c74 => ?_)
            · refine z_iload_n dX5_turn_82 rfl ?_
              refine z_sstore dX5_turn_83 (by omega) (fun σ83 hσ83 => ?_)
              refine z_aload_n dX5_turn_84 rfl ?_
              refine z_getR (b := 188) dX5_turn_85 fX5_7 (by decide) zsh187 rfl rfl ?_
              refine z_iload_n dX5_turn_88 rfl ?_
              refine z_bipush dX5_turn_89 (by decide) ?_
              refine z_callS mX5_of vX5_of rfl dX5_turn_91 kX5_40 (by decide) rfl (by show _ ≤ 8; simp) (fun v91 M91 q91 => ?_)
              obtain ⟨rfl, rfl⟩ := q91
              try simp only [zpush]
              refine z_dup2 dX5_turn_94 ?_
              refine z_sload dX5_turn_95 (by omega) ?_
              refine z_iconst dX5_turn_96 ?_
              refine z_iadd dX5_turn_97 ?_
              refine z_sstore dX5_turn_98 (by omega) (fun σ98 hσ98 => ?_)
              refine z_aload_n dX5_turn_99 rfl ?_
              refine z_getR (b := 188) dX5_turn_100 fX5_7 (by decide) zsh187 rfl rfl ?_
              refine z_iload_n dX5_turn_103 rfl ?_
              refine z_bipush dX5_turn_104 (by decide) ?_
              refine z_callS mX5_of vX5_of rfl dX5_turn_106 kX5_40 (by decide) rfl (by show _ ≤ 8; simp) (fun v106 M106 q106 => ?_)
              obtain ⟨rfl, rfl⟩ := q106
              try simp only [zpush]
              refine z_iconst dX5_turn_109 ?_
              refine z_sstore dX5_turn_110 (by omega) (fun σ110 hσ110 => ?_)
              refine z_aload_n dX5_turn_111 rfl ?_
              refine z_getR (b := 188) dX5_turn_112 fX5_7 (by decide) zsh187 rfl rfl ?_
              refine z_iload_n dX5_turn_115 rfl ?_
              refine z_bipush dX5_turn_116 (by decide) ?_
              refine z_callS mX5_of vX5_of rfl dX5_turn_118 kX5_40 (by decide) rfl (by show _ ≤ 8; simp) (fun v118 M118 q118 => ?_)
              obtain ⟨rfl, rfl⟩ := q118
              try simp only [zpush]
              refine z_iconst dX5_turn_121 ?_
              refine z_sstore dX5_turn_122 (by omega) (fun σ122 hσ122 => ?_)
              refine z_iinc dX5_turn_123 rfl (by decide) ?_
              refine z_goto (tgt := 2) dX5_turn_126 (by decide) ?_
              have hacts : ∀ τ2 : zS, sAct τ k = τ2 → zW G YX5_turn (fun v M' => v = none ∧ M' = zt M (sTurn σ)) 2 [(1, .inl (k + 1)), (0, .inr (some 187))] [] (zt M τ2) := fun τ2 e2 => ih (k + 1) τ2 (by omega) (by omega) (e2 ▸ hact.1) (by rw [← e2, hm2, hm]) (by rw [← e2]; exact he)
              first
                | exact zsub' (hacts _ (by unfold sAct; rw [if_neg (by omega)])) ⟨rfl, rfl, trivial⟩
                | exact zsub' (hacts _ (by unfold sAct; rw [if_pos (by omega), if_pos (by omega)])) ⟨rfl, rfl, trivial⟩
                | exact zsub' (hacts _ (by unfold sAct; rw [if_pos (by omega), if_neg (by omega)]; unfold sRest sC8; first | rw [if_pos (by omega)]; subst_vars; rfl | rw [if_neg (by omega)]; subst_vars; rfl)) ⟨rfl, rfl, trivial⟩
            · refine z_bipush dX5_turn_77 (by decide) ?_
              refine z_goto (tgt := 83) dX5_turn_79 (by decide) ?_
              refine z_sstore dX5_turn_83 (by omega) (fun σ83 hσ83 => ?_)
              refine z_aload_n dX5_turn_84 rfl ?_
              refine z_getR (b := 188) dX5_turn_85 fX5_7 (by decide) zsh187 rfl rfl ?_
              refine z_iload_n dX5_turn_88 rfl ?_
              refine z_bipush dX5_turn_89 (by decide) ?_
              refine z_callS mX5_of vX5_of rfl dX5_turn_91 kX5_40 (by decide) rfl (by show _ ≤ 8; simp) (fun v91 M91 q91 => ?_)
              obtain ⟨rfl, rfl⟩ := q91
              try simp only [zpush]
              refine z_dup2 dX5_turn_94 ?_
              refine z_sload dX5_turn_95 (by omega) ?_
              refine z_iconst dX5_turn_96 ?_
              refine z_iadd dX5_turn_97 ?_
              refine z_sstore dX5_turn_98 (by omega) (fun σ98 hσ98 => ?_)
              refine z_aload_n dX5_turn_99 rfl ?_
              refine z_getR (b := 188) dX5_turn_100 fX5_7 (by decide) zsh187 rfl rfl ?_
              refine z_iload_n dX5_turn_103 rfl ?_
              refine z_bipush dX5_turn_104 (by decide) ?_
              refine z_callS mX5_of vX5_of rfl dX5_turn_106 kX5_40 (by decide) rfl (by show _ ≤ 8; simp) (fun v106 M106 q106 => ?_)
              obtain ⟨rfl, rfl⟩ := q106
              try simp only [zpush]
              refine z_iconst dX5_turn_109 ?_
              refine z_sstore dX5_turn_110 (by omega) (fun σ110 hσ110 => ?_)
              refine z_aload_n dX5_turn_111 rfl ?_
              refine z_getR (b := 188) dX5_turn_112 fX5_7 (by decide) zsh187 rfl rfl ?_
              refine z_iload_n dX5_turn_115 rfl ?_
              refine z_bipush dX5_turn_116 (by decide) ?_
              refine z_callS mX5_of vX5_of rfl dX5_turn_118 kX5_40 (by decide) rfl (by show _ ≤ 8; simp) (fun v118 M118 q118 => ?_)
              obtain ⟨rfl, rfl⟩ := q118
              try simp only [zpush]
              refine z_iconst dX5_turn_121 ?_
              refine z_sstore dX5_turn_122 (by omega) (fun σ122 hσ122 => ?_)
              refine z_iinc dX5_turn_123 rfl (by decide) ?_
              refine z_goto (tgt := 2) dX5_turn_126 (by decide) ?_
              have hacts : ∀ τ2 : zS, sAct τ k = τ2 → zW G YX5_turn (fun v M' => v = none ∧ M' = zt M (sTurn σ)) 2 [(1, .inl (k + 1)), (0, .inr (some 187))] [] (zt M τ2) := fun τ2 e2 => ih (k + 1) τ2 (by omega) (by omega) (e2 ▸ hact.1) (by rw [← e2, hm2, hm]) (by rw [← e2]; exact he)
              first
                | exact zsub' (hacts _ (by unfold sAct; rw [if_neg (by omega)])) ⟨rfl, rfl, trivial⟩
                | exact zsub' (hacts _ (by unfold sAct; rw [if_pos (by omega), if_pos (by omega)])) ⟨rfl, rfl, trivial⟩
                | exact zsub' (hacts _ (by unfold sAct; rw [if_pos (by omega), if_neg (by omega)]; unfold sRest sC8; first | rw [if_pos (by omega)]; subst_vars; rfl | rw [if_neg (by omega)]; subst_vars; rfl)) ⟨rfl, rfl, trivial⟩
          · have hch := sCh_lt (σ := τ) (k := k) (by omega)
            refine z_aload_n dX5_turn_33 rfl ?_
            refine z_iload_n dX5_turn_34 rfl ?_
            refine z_iload_n dX5_turn_35 rfl ?_
            refine z_callV mX5_creep (vX5_creep hA2.1 (by omega) (by omega) hch.2.1) rfl dX5_turn_36 kX5_99 (by decide) rfl (by show _ ≤ 8; simp) (by decide) zsh187 (by decide) rfl (fun v36 M36 q36 => ?_)
            obtain ⟨rfl, rfl⟩ := q36
            try simp only [zpush]
            refine z_goto (tgt := 123) dX5_turn_39 (by decide) ?_
            refine z_iinc dX5_turn_123 rfl (by decide) ?_
            refine z_goto (tgt := 2) dX5_turn_126 (by decide) ?_
            have hacts : ∀ τ2 : zS, sAct τ k = τ2 → zW G YX5_turn (fun v M' => v = none ∧ M' = zt M (sTurn σ)) 2 [(1, .inl (k + 1)), (0, .inr (some 187))] [] (zt M τ2) := fun τ2 e2 => ih (k + 1) τ2 (by omega) (by omega) (e2 ▸ hact.1) (by rw [← e2, hm2, hm]) (by rw [← e2]; exact he)
            first
              | exact zsub' (hacts _ (by unfold sAct; rw [if_neg (by omega)])) ⟨rfl, rfl, trivial⟩
              | exact zsub' (hacts _ (by unfold sAct; rw [if_pos (by omega), if_pos (by omega)])) ⟨rfl, rfl, trivial⟩
              | exact zsub' (hacts _ (by unfold sAct; rw [if_pos (by omega), if_neg (by omega)]; unfold sRest sC8; first | rw [if_pos (by omega)]; subst_vars; rfl | rw [if_neg (by omega)]; subst_vars; rfl)) ⟨rfl, rfl, trivial⟩
  exact zsub' (L (σ 535 + 1).toNat 0 σ (by omega) (by omega) hA rfl rfl) ⟨rfl, rfl, trivial⟩
