theorem vX5_wayUp {G : zG} {M : zM} {σ : zS} {lane row w : Int} (hlane : -2147483648 ≤ lane ∧ lane < 2147483648) (hrow : -2147483648 ≤ row ∧ row < 2147483648) (hw : -2147483648 ≤ w ∧ w < 2147483648) (hA : zA σ) : zCall G yX5_wayUp YX5_wayUp [.inr (some 187), .inl lane, .inl row, .inl w] (zt M σ) (fun v M' => v = some (.inl (sWay σ lane row w)) ∧ ∃ N : zM, M' = zt N σ ∧ ∀ a : Int, a ≠ 193 → a ≠ 194 → N a = M a) := by
  refine zEnter (by decide +kernel) rfl (Nat.le_of_ble_eq_true rfl) ?_
  have hI := hA.1
  have hs9 := hI.1
  unfold zIs at hs9
  refine z_iload_n dX5_wayUp_0 rfl ?_
  refine z_iload_n dX5_wayUp_1 rfl ?_
  refine z_callS mX5_isCell (vX5_isCell (by omega) (by omega)) rfl dX5_wayUp_2 kX5_66 (by decide) rfl (by show _ ≤ 8; simp) (fun v2 M2 q2 => ?_)
  obtain ⟨rfl, b2, rfl, h2⟩ := q2
  try simp only [zpush]
  refine z_if_ne (tgt := 10) dX5_wayUp_5 (by decide) (by omega) (fun c5 => ?_) (fun c5 => ?_)
  · refine z_iload_n dX5_wayUp_10 rfl ?_
    refine z_iconst dX5_wayUp_11 ?_
    refine z_iconst dX5_wayUp_12 ?_
    refine z_callS mX5_in (vX5_in (by omega) (by omega) (by omega)) rfl dX5_wayUp_13 kX5_32 (by decide) rfl (by show _ ≤ 8; simp) (fun v13 M13 q13 => ?_)
    obtain ⟨rfl, b13, rfl, h13⟩ := q13
    try simp only [zpush]
    refine z_if_ne (tgt := 22) dX5_wayUp_16 (by decide) (by omega) (fun c16 => ?_) (fun c16 => ?_)
    · refine z_iconst dX5_wayUp_22 ?_
      refine z_istore dX5_wayUp_23 (by decide) ?_
      have L : ∀ (n : Nat) (c : Int) (N : zM), (0 ≤ c ∧ c ≤ 6) → (c + n = 7) → (∀ a : Int, a ≠ 193 → N a = M a) → (∀ j : Int, 0 ≤ j → j < c → N 193 j = 0) → zW G YX5_wayUp (fun v M' => v = some (.inl (sWay σ lane row w)) ∧ ∃ N : zM, M' = zt N σ ∧ ∀ a : Int, a ≠ 193 → a ≠ 194 → N a = M a) 25 [(4, .inl c), (0, .inr (some 187)), (1, .inl lane), (2, .inl row), (3, .inl w)] [] (zt N σ) := by
        intro n
        induction n with
        | zero => intro c N hc hcn h1 h2; exfalso; omega
        | succ n ih =>
          intro c N hc hcn h1 h2
          refine z_iload dX5_wayUp_25 rfl ?_
          refine z_bipush dX5_wayUp_27 (by decide) ?_
          refine z_icmp_ge (tgt := 46) dX5_wayUp_29 (by decide) (by omega) (by omega) (fun c29 => ?_) (fun c29 => ?_)
          · refine z_bipush dX5_wayUp_46 (by decide) ?_
            refine z_istore dX5_wayUp_48 (by decide) ?_
            have L2 : ∀ (n : Nat) (r : Int) (N : zM), (row - 1 ≤ r ∧ r ≤ 18) → (n = r - row + 2) → (∀ a : Int, a ≠ 193 → a ≠ 194 → N a = M a) → (∀ j : Int, 0 ≤ j → j < 6 → N 193 j = sWayN σ (18 - r).toNat j) → zW G YX5_wayUp (fun v M' => v = some (.inl (sWay σ lane row w)) ∧ ∃ N : zM, M' = zt N σ ∧ ∀ a : Int, a ≠ 193 → a ≠ 194 → N a = M a) 50 [(4, .inl r), (0, .inr (some 187)), (1, .inl lane), (2, .inl row), (3, .inl w)] [] (zt N σ) := by
              intro n
              induction n with
              | zero => intro r N hr hrn h1 h2; exfalso; omega
              | succ n ih =>
                intro r N hr hrn h1 h2
                refine z_iload dX5_wayUp_50 rfl ?_
                refine z_iload_n dX5_wayUp_52 rfl ?_
                refine z_icmp_lt (tgt := 216) dX5_wayUp_53 (by decide) (by omega) (by omega) (fun c53 => ?_) (fun c53 => ?_)
                · refine z_aload_n dX5_wayUp_216 rfl ?_
                  refine z_getR (b := 193) dX5_wayUp_217 fX5_26 (by decide) zsh187 rfl rfl ?_
                  refine z_iload_n dX5_wayUp_220 rfl ?_
                  refine z_oload dX5_wayUp_221 (by decide) (by decide) (zsh193) (by omega) (by decide) ?_
                  refine z_iret dX5_wayUp_222 rfl ?_
                  refine ⟨?_, N, rfl, h1⟩
                  unfold sWay
                  rw [if_neg (by omega), if_neg (by omega), h2 lane (by omega) (by omega), show (18 - r).toNat = (19 - row).toNat by omega]
                · have ih2 := ih
                  refine z_iconst dX5_wayUp_56 ?_
                  refine z_istore dX5_wayUp_57 (by decide) ?_
                  have L3 : ∀ (n : Nat) (c : Int) (N1 : zM), (0 ≤ c ∧ c ≤ 6) → (c + n = 7) → (∀ a : Int, a ≠ 194 → N1 a = N a) → (∀ j : Int, 0 ≤ j → j < c → N1 194 j = sWayN σ (19 - r).toNat j) → zW G YX5_wayUp (fun v M' => v = some (.inl (sWay σ lane row w)) ∧ ∃ N : zM, M' = zt N σ ∧ ∀ a : Int, a ≠ 193 → a ≠ 194 → N a = M a) 59 [(5, .inl c), (4, .inl r), (0, .inr (some 187)), (1, .inl lane), (2, .inl row), (3, .inl w)] [] (zt N1 σ) := by
                    intro n
                    induction n with
                    | zero => intro c N1 hc hcn h3 h4; exfalso; omega
                    | succ n ih =>
                      intro c N1 hc hcn h3 h4
                      refine z_iload dX5_wayUp_59 rfl ?_
                      refine z_bipush dX5_wayUp_61 (by decide) ?_
                      refine z_icmp_ge (tgt := 180) dX5_wayUp_63 (by decide) (by omega) (by omega) (fun c63 => ?_) (fun c63 => ?_)
                      · refine z_iconst dX5_wayUp_180 ?_
                        refine z_istore dX5_wayUp_181 (by decide) ?_
                        have L5 : ∀ (n : Nat) (d : Int) (N2 : zM), (0 ≤ d ∧ d ≤ 6) → (d + n = 7) → (∀ a : Int, a ≠ 193 → N2 a = N1 a) → (∀ j : Int, 0 ≤ j → j < d → N2 193 j = N1 194 j) → zW G YX5_wayUp (fun v M' => v = some (.inl (sWay σ lane row w)) ∧ ∃ N : zM, M' = zt N σ ∧ ∀ a : Int, a ≠ 193 → a ≠ 194 → N a = M a) 183 [(5, .inl d), (4, .inl r), (0, .inr (some 187)), (1, .inl lane), (2, .inl row), (3, .inl w)] [] (zt N2 σ) := by
                          intro n
                          induction n with
                          | zero => intro d N2 hd2 hdn h5 h6; exfalso; omega
                          | succ n ih =>
                            intro d N2 hd2 hdn h5 h6
                            refine z_iload dX5_wayUp_183 rfl ?_
                            refine z_bipush dX5_wayUp_185 (by decide) ?_
                            refine z_icmp_ge (tgt := 210) dX5_wayUp_187 (by decide) (by omega) (by omega) (fun c187 => ?_) (fun c187 => ?_)
                            · refine z_iinc dX5_wayUp_210 rfl (by decide) ?_
                              refine z_goto (tgt := 50) dX5_wayUp_213 (by decide) ?_
                              exact zsub' (ih2 (r + -1) N2 (by omega) (by omega) (fun a q1 q2 => by rw [h5 a q1, h3 a q2]; exact h1 a q1 q2) (fun j q1 q2 => by rw [h6 j q1 (by omega), h4 j q1 (by omega), show (18 - (r + -1)).toNat = (19 - r).toNat by omega])) ⟨rfl, rfl, rfl, rfl, rfl, trivial⟩
                            · refine z_aload_n dX5_wayUp_190 rfl ?_
                              refine z_getR (b := 193) dX5_wayUp_191 fX5_26 (by decide) zsh187 rfl rfl ?_
                              refine z_iload dX5_wayUp_194 rfl ?_
                              refine z_aload_n dX5_wayUp_196 rfl ?_
                              refine z_getR (b := 194) dX5_wayUp_197 fX5_29 (by decide) zsh187 rfl rfl ?_
                              refine z_iload dX5_wayUp_200 rfl ?_
                              refine z_oload dX5_wayUp_202 (by decide) (by decide) (zsh194) (by omega) (by decide) ?_
                              refine z_ostore dX5_wayUp_203 (by decide) (by decide) (zsh193) (by omega) (by decide) (fun N203 hN203 => ?_)
                              refine z_iinc dX5_wayUp_204 rfl (by decide) ?_
                              refine z_goto (tgt := 183) dX5_wayUp_207 (by decide) ?_
                              exact zsub' (ih (d + 1) N203 (by omega) (by omega) (fun a ha => by rw [hN203, zm_up_off ha]; exact h5 a ha) (fun j q1 q2 => if hj : j = d then (by rw [hN203, hj, zm_up_at, h5 194 (by decide)]) else (by rw [hN203, zm_up_ne hj]; exact h6 j q1 (by omega)))) ⟨rfl, rfl, rfl, rfl, rfl, rfl, trivial⟩
                        exact zsub' (L5 7 0 N1 (by omega) (by omega) (fun _ _ => rfl) (fun j q1 q2 => by omega)) ⟨rfl, rfl, rfl, rfl, rfl, rfl, trivial⟩
                      · have ih3 := ih
                        have hu := fun x q1 q2 => sWayN_r hI (18 - r).toNat x (by omega) q1 q2
                        refine z_bipush dX5_wayUp_66 (by decide) ?_
                        refine z_istore dX5_wayUp_68 (by decide) ?_
                        refine z_iconst dX5_wayUp_70 ?_
                        refine z_istore dX5_wayUp_71 (by decide) ?_
                        have L4 : ∀ (n : Nat) (s : Int) (f : Int), (0 ≤ s ∧ s ≤ 3) → (s + n = 4) → (f = -5 ∨ (0 ≤ f ∧ f ≤ 1000)) → (zfor (sWayF σ (sWayN σ (18 - r).toNat) r c) s 3 f = sWayR σ (sWayN σ (18 - r).toNat) r c) → zW G YX5_wayUp (fun v M' => v = some (.inl (sWay σ lane row w)) ∧ ∃ N : zM, M' = zt N σ ∧ ∀ a : Int, a ≠ 193 → a ≠ 194 → N a = M a) 73 [(7, .inl s), (6, .inl f), (5, .inl c), (4, .inl r), (0, .inr (some 187)), (1, .inl lane), (2, .inl row), (3, .inl w)] [] (zt N1 σ) := by
                          intro n
                          induction n with
                          | zero => intro s f hs hsn hf he; exfalso; omega
                          | succ n ih =>
                            intro s f hs hsn hf he
                            refine z_iload dX5_wayUp_73 rfl ?_
                            refine z_iconst dX5_wayUp_75 ?_
                            refine z_icmp_ge (tgt := 165) dX5_wayUp_76 (by decide) (by omega) (by omega) (fun c76 => ?_) (fun c76 => ?_)
                            · rw [zfor_end (by omega)] at he
                              refine z_aload_n dX5_wayUp_165 rfl ?_
                              refine z_getR (b := 194) dX5_wayUp_166 fX5_29 (by decide) zsh187 rfl rfl ?_
                              refine z_iload dX5_wayUp_169 rfl ?_
                              refine z_iload dX5_wayUp_171 rfl ?_
                              refine z_ostore dX5_wayUp_173 (by decide) (by decide) (zsh194) (by omega) (by decide) (fun N173 hN173 => ?_)
                              refine z_iinc dX5_wayUp_174 rfl (by decide) ?_
                              refine z_goto (tgt := 59) dX5_wayUp_177 (by decide) ?_
                              exact zsub' (ih3 (c + 1) N173 (by omega) (by omega) (fun a ha => by rw [hN173, zm_up_off ha]; exact h3 a ha) (fun j q1 q2 => if hj : j = c then (by rw [hN173, hj, zm_up_at, sWayN_step σ (by omega), he]) else (by rw [hN173, zm_up_ne hj]; exact h4 j q1 (by omega)))) ⟨rfl, rfl, rfl, rfl, rfl, rfl, trivial⟩
                            · rw [zfor_step (by omega)] at he
                              refine z_iload dX5_wayUp_79 rfl ?_
                              refine z_iload dX5_wayUp_81 rfl ?_
                              refine z_callS mX5_laneOf (vX5_laneOf (by omega)) rfl dX5_wayUp_83 kX5_87 (by decide) rfl (by show _ ≤ 8; simp) (fun v83 M83 q83 => ?_)
                              obtain ⟨rfl, rfl⟩ := q83
                              try simp only [zpush]
                              generalize hx : sLn c s = x
                              have hxr : -1 ≤ x ∧ x ≤ 6 := by rw [← hx]; exact sLn_r (by omega) s
                              refine z_istore dX5_wayUp_86 (by decide) ?_
                              refine z_iload dX5_wayUp_88 rfl ?_
                              refine z_callS mX5_isLane (vX5_isLane (by omega)) rfl dX5_wayUp_90 kX5_36 (by decide) rfl (by show _ ≤ 8; simp) (fun v90 M90 q90 => ?_)
                              obtain ⟨rfl, b90, rfl, h90⟩ := q90
                              try simp only [zpush]
                              refine z_if_eq (tgt := 125) dX5_wayUp_93 (by decide) (by omega) (fun c93 => ?_) (fun c93 => ?_)
                              · refine z_bipush dX5_wayUp_125 (by decide) ?_
                                refine z_istore dX5_wayUp_127 (by decide) ?_
                                refine z_iload dX5_wayUp_129 rfl ?_
                                refine z_bipush dX5_wayUp_131 (by decide) ?_
                                refine z_icmp_eq (tgt := 155) dX5_wayUp_133 (by decide) (by decide) (by decide) (fun _ => ?_) (fun h => absurd h (by decide))
                                refine z_iload dX5_wayUp_155 rfl ?_
                                refine z_istore dX5_wayUp_157 (by decide) ?_
                                refine z_iinc dX5_wayUp_159 rfl (by decide) ?_
                                refine z_goto (tgt := 73) dX5_wayUp_162 (by decide) ?_
                                first
                                  | (rw [show sWayF σ (sWayN σ (18 - r).toNat) r c s f = sWayN σ (18 - r).toNat x + 1 + σ (6 * (r + 1) + x) from by unfold sWayF; rw [hx, if_pos (by omega)]] at he; exact zsub' (ih (s + 1) _ (by omega) (by omega) (by omega) he) ⟨rfl, rfl, rfl, rfl, rfl, rfl, rfl, rfl, trivial⟩)
                                  | (rw [show sWayF σ (sWayN σ (18 - r).toNat) r c s f = f from by unfold sWayF; rw [hx, if_neg (by omega)]] at he; exact zsub' (ih (s + 1) f (by omega) (by omega) hf he) ⟨rfl, rfl, rfl, rfl, rfl, rfl, rfl, rfl, trivial⟩)
                              · have hN1 : N1 193 x = sWayN σ (18 - r).toNat x := by rw [h3 193 (by decide)]; exact h2 x (by omega) (by omega)
                                have hux := hu x (by omega) (by omega)
                                have hcx := hI.2.1 (6 * (r + 1) + x) (by omega) (by omega)
                                unfold zIc at hcx
                                refine z_aload_n dX5_wayUp_96 rfl ?_
                                refine z_getR (b := 193) dX5_wayUp_97 fX5_26 (by decide) zsh187 rfl rfl ?_
                                refine z_iload dX5_wayUp_100 rfl ?_
                                refine z_oload dX5_wayUp_102 (by decide) (by decide) (zsh193) (by omega) (by decide) ?_
                                refine z_iconst dX5_wayUp_103 ?_
                                refine z_iadd dX5_wayUp_104 ?_
                                refine z_aload_n dX5_wayUp_105 rfl ?_
                                refine z_getR (b := 188) dX5_wayUp_106 fX5_7 (by decide) zsh187 rfl rfl ?_
                                refine z_iconst dX5_wayUp_109 ?_
                                refine z_iload dX5_wayUp_110 rfl ?_
                                refine z_iload dX5_wayUp_112 rfl ?_
                                refine z_iconst dX5_wayUp_114 ?_
                                refine z_iadd dX5_wayUp_115 ?_
                                refine z_callS mX5_at vX5_at rfl dX5_wayUp_116 kX5_70 (by decide) rfl (by show _ ≤ 8; simp) (fun v116 M116 q116 => ?_)
                                obtain ⟨rfl, rfl⟩ := q116
                                try simp only [zpush]
                                refine z_iadd dX5_wayUp_119 ?_
                                refine z_sload dX5_wayUp_120 (by omega) ?_
                                rw [hN1, Int.zero_add]
                                refine z_iadd dX5_wayUp_121 ?_
                                refine z_goto (tgt := 127) dX5_wayUp_122 (by decide) ?_
                                refine z_istore dX5_wayUp_127 (by decide) ?_
                                refine z_iload dX5_wayUp_129 rfl ?_
                                refine z_bipush dX5_wayUp_131 (by decide) ?_
                                refine z_icmp_eq (tgt := 155) dX5_wayUp_133 (by decide) (by omega) (by omega) (fun c133 => ?_) (fun c133 => ?_)
                                · refine z_iload dX5_wayUp_155 rfl ?_
                                  refine z_istore dX5_wayUp_157 (by decide) ?_
                                  refine z_iinc dX5_wayUp_159 rfl (by decide) ?_
                                  refine z_goto (tgt := 73) dX5_wayUp_162 (by decide) ?_
                                  first
                                    | (rw [show sWayF σ (sWayN σ (18 - r).toNat) r c s f = sWayN σ (18 - r).toNat x + 1 + σ (6 * (r + 1) + x) from by unfold sWayF; rw [hx, if_pos (by omega)]] at he; exact zsub' (ih (s + 1) _ (by omega) (by omega) (by omega) he) ⟨rfl, rfl, rfl, rfl, rfl, rfl, rfl, rfl, trivial⟩)
                                    | (rw [show sWayF σ (sWayN σ (18 - r).toNat) r c s f = f from by unfold sWayF; rw [hx, if_neg (by omega)]] at he; exact zsub' (ih (s + 1) f (by omega) (by omega) hf he) ⟨rfl, rfl, rfl, rfl, rfl, rfl, rfl, rfl, trivial⟩)
                                · refine z_iload dX5_wayUp_136 rfl ?_
                                  refine z_bipush dX5_wayUp_138 (by decide) ?_
                                  refine z_icmp_eq (tgt := 150) dX5_wayUp_140 (by decide) (by omega) (by omega) (fun c140 => ?_) (fun c140 => ?_)
                                  · refine z_iload dX5_wayUp_150 rfl ?_
                                    refine z_goto (tgt := 157) dX5_wayUp_152 (by decide) ?_
                                    refine z_istore dX5_wayUp_157 (by decide) ?_
                                    refine z_iinc dX5_wayUp_159 rfl (by decide) ?_
                                    refine z_goto (tgt := 73) dX5_wayUp_162 (by decide) ?_
                                    first
                                      | (rw [show sWayF σ (sWayN σ (18 - r).toNat) r c s f = sWayN σ (18 - r).toNat x + 1 + σ (6 * (r + 1) + x) from by unfold sWayF; rw [hx, if_pos (by omega)]] at he; exact zsub' (ih (s + 1) _ (by omega) (by omega) (by omega) he) ⟨rfl, rfl, rfl, rfl, rfl, rfl, rfl, rfl, trivial⟩)
                                      | (rw [show sWayF σ (sWayN σ (18 - r).toNat) r c s f = f from by unfold sWayF; rw [hx, if_neg (by omega)]] at he; exact zsub' (ih (s + 1) f (by omega) (by omega) hf he) ⟨rfl, rfl, rfl, rfl, rfl, rfl, rfl, rfl, trivial⟩)
                                  · refine z_iload dX5_wayUp_143 rfl ?_
                                    refine z_iload dX5_wayUp_145 rfl ?_
                                    refine z_icmp_ge (tgt := 155) dX5_wayUp_147 (by decide) (by omega) (by omega) (fun c147 => ?_) (fun c147 => ?_)
                                    · refine z_iload dX5_wayUp_155 rfl ?_
                                      refine z_istore dX5_wayUp_157 (by decide) ?_
                                      refine z_iinc dX5_wayUp_159 rfl (by decide) ?_
                                      refine z_goto (tgt := 73) dX5_wayUp_162 (by decide) ?_
                                      first
                                        | (rw [show sWayF σ (sWayN σ (18 - r).toNat) r c s f = sWayN σ (18 - r).toNat x + 1 + σ (6 * (r + 1) + x) from by unfold sWayF; rw [hx, if_pos (by omega)]] at he; exact zsub' (ih (s + 1) _ (by omega) (by omega) (by omega) he) ⟨rfl, rfl, rfl, rfl, rfl, rfl, rfl, rfl, trivial⟩)
                                        | (rw [show sWayF σ (sWayN σ (18 - r).toNat) r c s f = f from by unfold sWayF; rw [hx, if_neg (by omega)]] at he; exact zsub' (ih (s + 1) f (by omega) (by omega) hf he) ⟨rfl, rfl, rfl, rfl, rfl, rfl, rfl, rfl, trivial⟩)
                                    · refine z_iload dX5_wayUp_150 rfl ?_
                                      refine z_goto (tgt := 157) dX5_wayUp_152 (by decide) ?_
                                      refine z_istore dX5_wayUp_157 (by decide) ?_
                                      refine z_iinc dX5_wayUp_159 rfl (by decide) ?_
                                      refine z_goto (tgt := 73) dX5_wayUp_162 (by decide) ?_
                                      first
                                        | (rw [show sWayF σ (sWayN σ (18 - r).toNat) r c s f = sWayN σ (18 - r).toNat x + 1 + σ (6 * (r + 1) + x) from by unfold sWayF; rw [hx, if_pos (by omega)]] at he; exact zsub' (ih (s + 1) _ (by omega) (by omega) (by omega) he) ⟨rfl, rfl, rfl, rfl, rfl, rfl, rfl, rfl, trivial⟩)
                                        | (rw [show sWayF σ (sWayN σ (18 - r).toNat) r c s f = f from by unfold sWayF; rw [hx, if_neg (by omega)]] at he; exact zsub' (ih (s + 1) f (by omega) (by omega) hf he) ⟨rfl, rfl, rfl, rfl, rfl, rfl, rfl, rfl, trivial⟩)
                        exact zsub' (L4 4 0 (-5) (by omega) (by omega) (by omega) rfl) ⟨rfl, rfl, rfl, rfl, rfl, rfl, rfl, rfl, trivial⟩
                  exact zsub' (L3 7 0 N (by omega) (by omega) (fun _ _ => rfl) (fun j q1 q2 => by omega)) ⟨rfl, rfl, rfl, rfl, rfl, rfl, trivial⟩
            exact zsub' (L2 (20 - row).toNat 18 N (by omega) (by omega) (fun a q1 q2 => h1 a q1) (fun j q1 q2 => by rw [h2 j q1 (by omega)]; rfl)) ⟨rfl, rfl, rfl, rfl, rfl, trivial⟩
          · refine z_aload_n dX5_wayUp_32 rfl ?_
            refine z_getR (b := 193) dX5_wayUp_33 fX5_26 (by decide) zsh187 rfl rfl ?_
            refine z_iload dX5_wayUp_36 rfl ?_
            refine z_iconst dX5_wayUp_38 ?_
            refine z_ostore dX5_wayUp_39 (by decide) (by decide) (zsh193) (by omega) (by decide) (fun N39 hN39 => ?_)
            refine z_iinc dX5_wayUp_40 rfl (by decide) ?_
            refine z_goto (tgt := 25) dX5_wayUp_43 (by decide) ?_
            exact zsub' (ih (c + 1) N39 (by omega) (by omega) (fun a ha => by rw [hN39, zm_up_off ha]; exact h1 a ha) (fun j q1 q2 => if hj : j = c then (by rw [hN39, hj]; exact zm_up_at) else (by rw [hN39, zm_up_ne hj]; exact h2 j q1 (by omega)))) ⟨rfl, rfl, rfl, rfl, rfl, trivial⟩
      exact zsub' (L 7 0 M (by omega) (by omega) (fun _ _ => rfl) (fun j q1 q2 => by omega)) ⟨rfl, rfl, rfl, rfl, rfl, trivial⟩
    · refine z_bipush dX5_wayUp_19 (by decide) ?_
      refine z_iret dX5_wayUp_21 rfl ?_
      exact ⟨by unfold sWay; rw [if_neg (by omega), if_pos (by omega)], M, rfl, fun _ _ _ => rfl⟩
  · refine z_iconst dX5_wayUp_8 ?_
    refine z_iret dX5_wayUp_9 rfl ?_
    exact ⟨by unfold sWay; rw [if_pos (by omega)], M, rfl, fun _ _ _ => rfl⟩
