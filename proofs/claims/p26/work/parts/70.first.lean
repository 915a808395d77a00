/-! ===== twice the same number ===== -/
theorem z_same_ne {G : zG} {Y : zY} {Q : Option zV → zM → Prop} {pc : Nat} {lo : List (Nat × zV)} {st : List zV} {M : zM} {x : Int} {off : Int} {tgt : Nat} (hd : decode Y.2.1 pc = .ok (.if_icmp .ne off, 3)) (ht : (pc : Int) + off = (tgt : Int))
    (kf : zW G Y Q (pc + 3) lo st M) : zW G Y Q pc lo (.inl x :: .inl x :: st) M := by
  intro p e s m args below meth c C H locs ls hP hS hl
  obtain ⟨hx, hb, hml, hr, hts, hown, hlk, hK, hSt, hJ, hN⟩ := id C
  exact lv_icmp_ne hx hb hd ht (fun h => absurd rfl h) (fun h => kf p e s m args below meth c C H locs ls hP hS hl)
theorem z_same_eq {G : zG} {Y : zY} {Q : Option zV → zM → Prop} {pc : Nat} {lo : List (Nat × zV)} {st : List zV} {M : zM} {x : Int} {off : Int} {tgt : Nat} (hd : decode Y.2.1 pc = .ok (.if_icmp .eq off, 3)) (ht : (pc : Int) + off = (tgt : Int))
    (kt : zW G Y Q tgt lo st M) : zW G Y Q pc lo (.inl x :: .inl x :: st) M := by
  intro p e s m args below meth c C H locs ls hP hS hl
  obtain ⟨hx, hb, hml, hr, hts, hown, hlk, hK, hSt, hJ, hN⟩ := id C
  exact lv_icmp_eq hx hb hd ht (fun h => kt p e s m args below meth c C H locs ls hP hS hl) (fun h => absurd rfl h)

theorem zs0_z {j : Int} (h : 120 ≤ j ∧ (j < 531 ∨ 535 ≤ j)) : zs0 j = 0 := by
  unfold zs0
  rw [if_neg (by omega), if_neg (by omega), if_neg (by omega), if_neg (by omega), if_neg (by omega)]
theorem zs0_f {j : Int} (h : j < 120) : zs0 j = 4 := if_pos h
def zNewP (M : zM) (p : Int) : Prop := (∀ c : Int, 0 ≤ c → c < 120 → M (p + 1) c = 4 ∧ M (p + 2) c = -5 ∧ M (p + 3) c = -5) ∧ (∀ k : Int, 0 ≤ k → k < 9 → zRe M p k) ∧ (∀ a b : Int, 0 ≤ a → a < 9 → 0 ≤ b → b < 9 → M (p + 15 + a) b = 0) ∧ (M (p + 24) 0 = 6 ∧ M (p + 24) 1 = 2 ∧ M (p + 24) 2 = 5 ∧ M (p + 24) 3 = 4) ∧ M p 15 = 0 ∧ M p 16 = 0
theorem zs0_5 : zs0 535 = 0 := rfl
theorem zRel_0 {M : zM} {p : Int} (h : zNewP M p) : zRel M p zs0 := by
  obtain ⟨h1, h2, h3, h4, h5, h6⟩ := h
  refine ⟨fun c q1 q2 => ?_, fun k q1 q2 => ?_, fun k q1 q2 => ?_, fun a b q1 q2 q3 q4 => ?_, h4, h5, h6⟩
  · have := h1 c q1 q2
    unfold zRc
    rw [zs0_f q2, zs0_z (j := 120 + c) (by omega)]
    exact ⟨this.1, Or.inl ⟨rfl, this.2.1, this.2.2⟩⟩
  · rw [zs0_5] at q2; omega
  · rw [zs0_5] at q1
    exact h2 k q1 q2
  · unfold zRo
    rw [zs0_5]
    exact Or.inr ⟨by omega, h3 a b q1 q2 q3 q4⟩
theorem zB_0 : zB zs0 := by
  refine ⟨⟨⟨?_, fun c q1 q2 => ?_, fun k q1 q2 => ?_⟩, fun c q1 q2 => ?_, fun c q1 q2 q3 => ?_⟩, by decide, by decide⟩
  · unfold zIs; decide
  · unfold zIc
    rw [zs0_f q2, zs0_z (j := 120 + c) (by omega), zs0_z (j := 240 + c) (by omega)]
    decide
  · unfold zIk
    simp only [zs0_z (j := 360 + 10 * k + 0) (by omega), zs0_z (j := 360 + 10 * k + 1) (by omega), zs0_z (j := 360 + 10 * k + 2) (by omega), zs0_z (j := 360 + 10 * k + 3) (by omega), zs0_z (j := 360 + 10 * k + 8) (by omega), zs0_z (j := 360 + 10 * k + 9) (by omega)]
    decide
  · rw [zs0_z (j := 240 + c) (by omega)]; decide
  · exact zs0_z (by omega)
theorem zX_0 : zX zs0 := by
  refine ⟨fun c q1 q2 => ?_, fun k q1 q2 => ?_, ?_, fun k q1 q2 => ?_⟩
  · rw [zs0_z (j := 120 + c) (by omega)]; decide
  · rw [zs0_5] at q2; omega
  · unfold sIn
    rw [zs0_5, zfor_end (by decide)]
    rfl
  · rw [zs0_5] at q2; omega
