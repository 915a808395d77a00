/-! ===== twice the same number ===== -/
theorem z_same_ne {G : zG} {Y : zY} {Q : Option zV → zM → Prop} {pc : Nat} {lo : List (Nat × zV)} {st : List zV} {M : zM} {x : Int} {off : Int} {tgt : Nat} (hd : decode Y.2.1 pc = .ok (.if_icmp .ne off, 3)) (ht : (pc : Int) + off = (tgt : Int))
    (kf : zW G Y Q (pc + 3) lo st M) : zW G Y Q pc lo (.inl x :: .inl x :: st) M := by
  intro p e s m args below meth c C H locs ls hP hS hl
  obtain ⟨hx, hb, hml, hr, hts, hown, hlk, hK, hSt, hJ, hN⟩ := id C
  exact lv_icmp_ne hx hb hd ht (fun h => absurd rfl h) (fun h => kf p e s m args below meth c C H locs ls hP hS hl)
theorem z_same_eq {G : zG} {Y : zY} {Q : Option zV → zM → Prop} {pc : Nat} {lo : List (Nat × zV)} {st : List zV} {M : zM} {x : Int} {off : Int} {tgt : Nat} (hd : decode Y.2.1 pc = .ok (.if_icmp .eq off, 3)) (ht : (pc : Int) + off = (tgt : Int))
    (kt : zW G Y Q tgt lo st M) : zW G Y Q pc lo (.inl x :: .inl x :: st) M := by
  intro p e s m args below meth c C H locs ls hP hS hl
  obtain ⟨hx, hb, hml, hr, hts, hown, hlk, hK, hSt, hJ, hN⟩ := id C
  exact lv_icmp_eq hx hb hd ht (fun h => kt p e s m args below meth c C H locs ls hP hS hl) (fun h => absurd rfl h)
