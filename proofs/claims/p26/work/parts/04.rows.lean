section ZR
variable {G : zG} {Y : zY} {Q : Option zV → zM → Prop} {pc : Nat} {lo : List (Nat × zV)} {st : List zV} {M : zM}
theorem z_iconst {n : Int} (hd : decode Y.2.1 pc = .ok (.iconst n, 1)) 
    (k : zW G Y Q (pc + 1) lo (.inl n :: st) M) : zW G Y Q pc lo st M := by
  intro p e s m args below meth c C H locs ls hP hS hl
  obtain ⟨hx, hb, hml, hr, hts, hown, hlk, hK, hSt, hJ, hN⟩ := id C
  exact lv_iconst hx hb hd rfl (k p e s m args below meth c C H locs ls hP hS hl)

theorem z_bipush {n : Int} (hd : decode Y.2.1 pc = .ok (.bipush n, 2)) (hv : (Int8.ofInt n).toInt32 = Int32.ofInt n)
    (k : zW G Y Q (pc + 2) lo (.inl n :: st) M) : zW G Y Q pc lo st M := by
  intro p e s m args below meth c C H locs ls hP hS hl
  obtain ⟨hx, hb, hml, hr, hts, hown, hlk, hK, hSt, hJ, hN⟩ := id C
  exact lv_bipush hx hb hd hv (k p e s m args below meth c C H locs ls hP hS hl)

theorem z_sipush {n : Int} (hd : decode Y.2.1 pc = .ok (.sipush n, 3)) (hv : (Int16.ofInt n).toInt32 = Int32.ofInt n)
    (k : zW G Y Q (pc + 3) lo (.inl n :: st) M) : zW G Y Q pc lo st M := by
  intro p e s m args below meth c C H locs ls hP hS hl
  obtain ⟨hx, hb, hml, hr, hts, hown, hlk, hK, hSt, hJ, hN⟩ := id C
  exact lv_sipush hx hb hd hv (k p e s m args below meth c C H locs ls hP hS hl)

theorem z_ldc {n : Int} {index : Nat} (hd : decode Y.2.1 pc = .ok (.ldc index, 2)) (hc : Jvm.Cond.constant Y.1 index (Int32.ofInt n) ∈ zT)
    (k : zW G Y Q (pc + 2) lo (.inl n :: st) M) : zW G Y Q pc lo st M := by
  intro p e s m args below meth c C H locs ls hP hS hl
  obtain ⟨hx, hb, hml, hr, hts, hown, hlk, hK, hSt, hJ, hN⟩ := id C
  exact lv_ldc hx hb hown (hts _ hc) hd (k p e s m args below meth c C H locs ls hP hS hl)

theorem z_iload_n {i : Fin 4} {x : Int} (hd : decode Y.2.1 pc = .ok (.iload_n i, 1)) (hk : zk lo i = some (.inl x))
    (k : zW G Y Q (pc + 1) lo (.inl x :: st) M) : zW G Y Q pc lo st M := by
  intro p e s m args below meth c C H locs ls hP hS hl
  obtain ⟨hx, hb, hml, hr, hts, hown, hlk, hK, hSt, hJ, hN⟩ := id C
  exact lv_iload_n hx hb hd rfl (zk_lv hl hk) (k p e s m args below meth c C H locs ls hP hS hl)

theorem z_iload {i : Nat} {x : Int} (hd : decode Y.2.1 pc = .ok (.iload i, 2)) (hk : zk lo i = some (.inl x))
    (k : zW G Y Q (pc + 2) lo (.inl x :: st) M) : zW G Y Q pc lo st M := by
  intro p e s m args below meth c C H locs ls hP hS hl
  obtain ⟨hx, hb, hml, hr, hts, hown, hlk, hK, hSt, hJ, hN⟩ := id C
  exact lv_iload hx hb hd (zk_lv hl hk) (k p e s m args below meth c C H locs ls hP hS hl)

theorem z_aload_n {i : Fin 4} {x : Int} (hd : decode Y.2.1 pc = .ok (.aload_n i, 1)) (hk : zk lo i = some (.inr (some x)))
    (k : zW G Y Q (pc + 1) lo (.inr (some x) :: st) M) : zW G Y Q pc lo st M := by
  intro p e s m args below meth c C H locs ls hP hS hl
  obtain ⟨hx, hb, hml, hr, hts, hown, hlk, hK, hSt, hJ, hN⟩ := id C
  exact lv_aload_n hx hb hd rfl (zk_lv hl hk) (k p e s m args below meth c C H locs ls hP hS hl)

theorem z_aload {i : Nat} {x : Int} (hd : decode Y.2.1 pc = .ok (.aload i, 2)) (hk : zk lo i = some (.inr (some x)))
    (k : zW G Y Q (pc + 2) lo (.inr (some x) :: st) M) : zW G Y Q pc lo st M := by
  intro p e s m args below meth c C H locs ls hP hS hl
  obtain ⟨hx, hb, hml, hr, hts, hown, hlk, hK, hSt, hJ, hN⟩ := id C
  exact lv_aload hx hb hd (zk_lv hl hk) (k p e s m args below meth c C H locs ls hP hS hl)

theorem z_aload_nN {i : Fin 4} (hd : decode Y.2.1 pc = .ok (.aload_n i, 1)) (hk : zk lo i = some (.inr none))
    (k : zW G Y Q (pc + 1) lo (.inr none :: st) M) : zW G Y Q pc lo st M := by
  intro p e s m args below meth c C H locs ls hP hS hl
  obtain ⟨hx, hb, hml, hr, hts, hown, hlk, hK, hSt, hJ, hN⟩ := id C
  exact lv_aload_nN hx hb hd rfl (zk_lv hl hk) (k p e s m args below meth c C H locs ls hP hS hl)

theorem z_aconst_null  (hd : decode Y.2.1 pc = .ok (.aconst_null, 1)) 
    (k : zW G Y Q (pc + 1) lo (.inr none :: st) M) : zW G Y Q pc lo st M := by
  intro p e s m args below meth c C H locs ls hP hS hl
  obtain ⟨hx, hb, hml, hr, hts, hown, hlk, hK, hSt, hJ, hN⟩ := id C
  exact lv_null hx hb hd  (k p e s m args below meth c C H locs ls hP hS hl)

theorem z_istore_n {i : Fin 4} {x : Int} (hd : decode Y.2.1 pc = .ok (.istore_n i, 1)) (hn : i < Y.2.2.1)
    (k : zW G Y Q (pc + 1) (zs lo i (.inl x)) st M) : zW G Y Q pc lo (.inl x :: st) M := by
  intro p e s m args below meth c C H locs ls hP hS hl
  obtain ⟨hx, hb, hml, hr, hts, hown, hlk, hK, hSt, hJ, hN⟩ := id C
  exact lv_istore_n hx hb hd rfl hl hn (zs_lo lo i (.inl x)) (fun ls' hl' => k p e s m args below meth c C H locs ls' hP hS hl')

theorem z_istore {i : Nat} {x : Int} (hd : decode Y.2.1 pc = .ok (.istore i, 2)) (hn : i < Y.2.2.1)
    (k : zW G Y Q (pc + 2) (zs lo i (.inl x)) st M) : zW G Y Q pc lo (.inl x :: st) M := by
  intro p e s m args below meth c C H locs ls hP hS hl
  obtain ⟨hx, hb, hml, hr, hts, hown, hlk, hK, hSt, hJ, hN⟩ := id C
  exact lv_istore hx hb hd  hl hn (zs_lo lo i (.inl x)) (fun ls' hl' => k p e s m args below meth c C H locs ls' hP hS hl')

theorem z_astore_n {i : Fin 4} {x : Int} (hd : decode Y.2.1 pc = .ok (.astore_n i, 1)) (hn : i < Y.2.2.1)
    (k : zW G Y Q (pc + 1) (zs lo i (.inr (some x))) st M) : zW G Y Q pc lo (.inr (some x) :: st) M := by
  intro p e s m args below meth c C H locs ls hP hS hl
  obtain ⟨hx, hb, hml, hr, hts, hown, hlk, hK, hSt, hJ, hN⟩ := id C
  exact lv_astore_n hx hb hd rfl hl hn (zs_lo lo i (.inr (some x))) (fun ls' hl' => k p e s m args below meth c C H locs ls' hP hS hl')

theorem z_astore {i : Nat} {x : Int} (hd : decode Y.2.1 pc = .ok (.astore i, 2)) (hn : i < Y.2.2.1)
    (k : zW G Y Q (pc + 2) (zs lo i (.inr (some x))) st M) : zW G Y Q pc lo (.inr (some x) :: st) M := by
  intro p e s m args below meth c C H locs ls hP hS hl
  obtain ⟨hx, hb, hml, hr, hts, hown, hlk, hK, hSt, hJ, hN⟩ := id C
  exact lv_astore hx hb hd  hl hn (zs_lo lo i (.inr (some x))) (fun ls' hl' => k p e s m args below meth c C H locs ls' hP hS hl')

theorem zk_idx {lo : List (Nat × zV)} {i : Nat} {v : zV} (G : zG) (h : zk lo i = some v) : ∃ j : Nat, (zm_lo G lo)[j]? = some (i, zc G v) := by
  obtain ⟨j, hj⟩ := List.getElem?_of_mem (zk_mem h)
  exact ⟨j, by unfold zm_lo; rw [List.getElem?_map, hj]; rfl⟩
theorem z_astore_nN {i : Fin 4} (hd : decode Y.2.1 pc = .ok (.astore_n i, 1)) (hn : i < Y.2.2.1)
    (k : zW G Y Q (pc + 1) (zs lo i (.inr none)) st M) : zW G Y Q pc lo (.inr none :: st) M := by
  intro p e s m args below meth c C H locs ls hP hS hl
  obtain ⟨hx, hb, hml, hr, hts, hown, hlk, hK, hSt, hJ, hN⟩ := id C
  exact lv_astore_nN hx hb hd rfl hl hn (zs_lo lo i (.inr none)) (fun ls' hl' => k p e s m args below meth c C H locs ls' hP hS hl')
theorem z_iinc {i : Nat} {n x : Int} (hd : decode Y.2.1 pc = .ok (.iinc i n, 3)) (hk : zk lo i = some (.inl x)) (hn : i < Y.2.2.1)
    (k : zW G Y Q (pc + 3) (zs lo i (.inl (x + n))) st M) : zW G Y Q pc lo st M := by
  intro p e s m args below meth c C H locs ls hP hS hl
  obtain ⟨hx, hb, hml, hr, hts, hown, hlk, hK, hSt, hJ, hN⟩ := id C
  obtain ⟨j, hj⟩ := zk_idx G hk
  exact lv_iinc hx hb hd hl hj (Int32.ofInt_add x n).symm hn (zs_lo lo i (.inl (x + n))) (fun ls' hl' => k p e s m args below meth c C H locs ls' hP hS hl')

theorem z_iadd {x y : Int} (hd : decode Y.2.1 pc = .ok (.iadd, 1))
    (k : zW G Y Q (pc + 1) lo (.inl (x + y) :: st) M) : zW G Y Q pc lo (.inl y :: .inl x :: st) M := by
  intro p e s m args below meth c C H locs ls hP hS hl
  obtain ⟨hx, hb, hml, hr, hts, hown, hlk, hK, hSt, hJ, hN⟩ := id C
  refine lv_iadd hx hb hd ?_
  rw [← Int32.ofInt_add]
  exact k p e s m args below meth c C H locs ls hP hS hl

theorem z_isub {x y : Int} (hd : decode Y.2.1 pc = .ok (.isub, 1))
    (k : zW G Y Q (pc + 1) lo (.inl (x - y) :: st) M) : zW G Y Q pc lo (.inl y :: .inl x :: st) M := by
  intro p e s m args below meth c C H locs ls hP hS hl
  obtain ⟨hx, hb, hml, hr, hts, hown, hlk, hK, hSt, hJ, hN⟩ := id C
  refine lv_isub hx hb hd ?_
  rw [← Int32.ofInt_sub]
  exact k p e s m args below meth c C H locs ls hP hS hl

theorem z_imul {x y : Int} (hd : decode Y.2.1 pc = .ok (.imul, 1))
    (k : zW G Y Q (pc + 1) lo (.inl (x * y) :: st) M) : zW G Y Q pc lo (.inl y :: .inl x :: st) M := by
  intro p e s m args below meth c C H locs ls hP hS hl
  obtain ⟨hx, hb, hml, hr, hts, hown, hlk, hK, hSt, hJ, hN⟩ := id C
  refine lv_imul hx hb hd ?_
  rw [← Int32.ofInt_mul]
  exact k p e s m args below meth c C H locs ls hP hS hl

theorem zn_div {x y : Int} (hx : 0 ≤ x ∧ x < 2147483648) (hy : 0 < y ∧ y < 2147483648) : Int32.ofInt x / Int32.ofInt y = Int32.ofInt (x / y) := by
  have e := Int32.ofInt_tdiv (a := x) (b := y) (by show (-2147483648 : Int) ≤ x; omega) (by show x ≤ (2147483647 : Int); omega) (by show (-2147483648 : Int) ≤ y; omega) (by show y ≤ (2147483647 : Int); omega)
  rw [← e, Int.tdiv_eq_ediv_of_nonneg hx.1]
theorem zn_ne0 {y : Int} (hy : 0 < y ∧ y < 2147483648) : ¬ Int32.ofInt y = 0 := by
  intro h
  have := (zn_eq (a := y) (b := 0) (by omega) (by omega)).mp h
  omega
theorem z_idiv {x y : Int} (hd : decode Y.2.1 pc = .ok (.idiv, 1)) (h1 : 0 ≤ x ∧ x < 2147483648) (h2 : 0 < y ∧ y < 2147483648)
    (k : zW G Y Q (pc + 1) lo (.inl (x / y) :: st) M) : zW G Y Q pc lo (.inl y :: .inl x :: st) M := by
  intro p e s m args below meth c C H locs ls hP hS hl
  obtain ⟨hx, hb, hml, hr, hts, hown, hlk, hK, hSt, hJ, hN⟩ := id C
  refine lv_idiv hx hb hd (zn_ne0 h2) ?_
  rw [zn_div h1 h2]
  exact k p e s m args below meth c C H locs ls hP hS hl
theorem z_irem {x y : Int} (hd : decode Y.2.1 pc = .ok (.irem, 1)) (h1 : 0 ≤ x ∧ x < 2147483648) (h2 : 0 < y ∧ y < 2147483648)
    (k : zW G Y Q (pc + 1) lo (.inl (x % y) :: st) M) : zW G Y Q pc lo (.inl y :: .inl x :: st) M := by
  intro p e s m args below meth c C H locs ls hP hS hl
  obtain ⟨hx, hb, hml, hr, hts, hown, hlk, hK, hSt, hJ, hN⟩ := id C
  refine lv_irem hx hb hd (zn_ne0 h2) ?_
  rw [zn_div h1 h2, ← Int32.ofInt_mul, ← Int32.ofInt_sub, show x - x / y * y = x % y by rw [Int.emod_def, Int.mul_comm]]
  exact k p e s m args below meth c C H locs ls hP hS hl
theorem z_dup {v : zV} (hd : decode Y.2.1 pc = .ok (.dup, 1))
    (k : zW G Y Q (pc + 1) lo (v :: v :: st) M) : zW G Y Q pc lo (v :: st) M := by
  intro p e s m args below meth c C H locs ls hP hS hl
  obtain ⟨hx, hb, hml, hr, hts, hown, hlk, hK, hSt, hJ, hN⟩ := id C
  exact lv_dup hx hb hd (zc_cat G v) (k p e s m args below meth c C H locs ls hP hS hl)
theorem z_pop {v : zV} (hd : decode Y.2.1 pc = .ok (.pop, 1))
    (k : zW G Y Q (pc + 1) lo st M) : zW G Y Q pc lo (v :: st) M := by
  intro p e s m args below meth c C H locs ls hP hS hl
  obtain ⟨hx, hb, hml, hr, hts, hown, hlk, hK, hSt, hJ, hN⟩ := id C
  exact lv_pop hx hb hd (zc_cat G v) (k p e s m args below meth c C H locs ls hP hS hl)
theorem z_dup2 {v w : zV} (hd : decode Y.2.1 pc = .ok (.dup2, 1))
    (k : zW G Y Q (pc + 1) lo (v :: w :: v :: w :: st) M) : zW G Y Q pc lo (v :: w :: st) M := by
  intro p e s m args below meth c C H locs ls hP hS hl
  obtain ⟨hx, hb, hml, hr, hts, hown, hlk, hK, hSt, hJ, hN⟩ := id C
  exact lv_dup2_11 hx hb hd (zc_cat G v) (zc_cat G w) (k p e s m args below meth c C H locs ls hP hS hl)
theorem z_goto {off : Int} {tgt : Nat} (hd : decode Y.2.1 pc = .ok (.goto off, 3)) (ht : (pc : Int) + off = (tgt : Int))
    (k : zW G Y Q tgt lo st M) : zW G Y Q pc lo st M := by
  intro p e s m args below meth c C H locs ls hP hS hl
  obtain ⟨hx, hb, hml, hr, hts, hown, hlk, hK, hSt, hJ, hN⟩ := id C
  exact lv_goto hx hb hd ht (k p e s m args below meth c C H locs ls hP hS hl)

theorem z_icmp_eq {x y : Int} {off : Int} {tgt : Nat} (hd : decode Y.2.1 pc = .ok (.if_icmp .eq off, 3)) (ht : (pc : Int) + off = (tgt : Int)) (rx : -2147483648 ≤ x ∧ x < 2147483648) (ry : -2147483648 ≤ y ∧ y < 2147483648)
    (kt : x = y → zW G Y Q tgt lo st M) (kf : ¬ x = y → zW G Y Q (pc + 3) lo st M) : zW G Y Q pc lo (.inl y :: .inl x :: st) M := by
  intro p e s m args below meth c C H locs ls hP hS hl
  obtain ⟨hx, hb, hml, hr, hts, hown, hlk, hK, hSt, hJ, hN⟩ := id C

  exact lv_icmp_eq hx hb hd ht (fun h => kt ((zn_eq (b := y) rx ry).mp h) p e s m args below meth c C H locs ls hP hS hl) (fun h => kf (fun q => h ((zn_eq (b := y) rx ry).mpr q)) p e s m args below meth c C H locs ls hP hS hl)

theorem z_if_eq {x : Int} {off : Int} {tgt : Nat} (hd : decode Y.2.1 pc = .ok (.ifCond .eq off, 3)) (ht : (pc : Int) + off = (tgt : Int)) (rx : -2147483648 ≤ x ∧ x < 2147483648)
    (kt : x = 0 → zW G Y Q tgt lo st M) (kf : ¬ x = 0 → zW G Y Q (pc + 3) lo st M) : zW G Y Q pc lo (.inl x :: st) M := by
  intro p e s m args below meth c C H locs ls hP hS hl
  obtain ⟨hx, hb, hml, hr, hts, hown, hlk, hK, hSt, hJ, hN⟩ := id C
  have ry : (-2147483648 : Int) ≤ 0 ∧ (0 : Int) < 2147483648 := by omega

  exact lv_if_eq hx hb hd ht (fun h => kt ((zn_eq (b := 0) rx ry).mp h) p e s m args below meth c C H locs ls hP hS hl) (fun h => kf (fun q => h ((zn_eq (b := 0) rx ry).mpr q)) p e s m args below meth c C H locs ls hP hS hl)

theorem z_icmp_ne {x y : Int} {off : Int} {tgt : Nat} (hd : decode Y.2.1 pc = .ok (.if_icmp .ne off, 3)) (ht : (pc : Int) + off = (tgt : Int)) (rx : -2147483648 ≤ x ∧ x < 2147483648) (ry : -2147483648 ≤ y ∧ y < 2147483648)
    (kt : ¬ x = y → zW G Y Q tgt lo st M) (kf : x = y → zW G Y Q (pc + 3) lo st M) : zW G Y Q pc lo (.inl y :: .inl x :: st) M := by
  intro p e s m args below meth c C H locs ls hP hS hl
  obtain ⟨hx, hb, hml, hr, hts, hown, hlk, hK, hSt, hJ, hN⟩ := id C

  exact lv_icmp_ne hx hb hd ht (fun h => kt (fun q => h ((zn_eq (b := y) rx ry).mpr q)) p e s m args below meth c C H locs ls hP hS hl) (fun h => kf ((zn_eq (b := y) rx ry).mp h) p e s m args below meth c C H locs ls hP hS hl)

theorem z_if_ne {x : Int} {off : Int} {tgt : Nat} (hd : decode Y.2.1 pc = .ok (.ifCond .ne off, 3)) (ht : (pc : Int) + off = (tgt : Int)) (rx : -2147483648 ≤ x ∧ x < 2147483648)
    (kt : ¬ x = 0 → zW G Y Q tgt lo st M) (kf : x = 0 → zW G Y Q (pc + 3) lo st M) : zW G Y Q pc lo (.inl x :: st) M := by
  intro p e s m args below meth c C H locs ls hP hS hl
  obtain ⟨hx, hb, hml, hr, hts, hown, hlk, hK, hSt, hJ, hN⟩ := id C
  have ry : (-2147483648 : Int) ≤ 0 ∧ (0 : Int) < 2147483648 := by omega

  exact lv_if_ne hx hb hd ht (fun h => kt (fun q => h ((zn_eq (b := 0) rx ry).mpr q)) p e s m args below meth c C H locs ls hP hS hl) (fun h => kf ((zn_eq (b := 0) rx ry).mp h) p e s m args below meth c C H locs ls hP hS hl)

theorem z_icmp_lt {x y : Int} {off : Int} {tgt : Nat} (hd : decode Y.2.1 pc = .ok (.if_icmp .lt off, 3)) (ht : (pc : Int) + off = (tgt : Int)) (rx : -2147483648 ≤ x ∧ x < 2147483648) (ry : -2147483648 ≤ y ∧ y < 2147483648)
    (kt : x < y → zW G Y Q tgt lo st M) (kf : y ≤ x → zW G Y Q (pc + 3) lo st M) : zW G Y Q pc lo (.inl y :: .inl x :: st) M := by
  intro p e s m args below meth c C H locs ls hP hS hl
  obtain ⟨hx, hb, hml, hr, hts, hown, hlk, hK, hSt, hJ, hN⟩ := id C

  exact lv_icmp_lt hx hb hd ht (fun h => kt ((zn_lt (b := y) rx ry).mp h) p e s m args below meth c C H locs ls hP hS hl) (fun h => kf (Int.not_lt.mp (fun q => h ((zn_lt (b := y) rx ry).mpr q))) p e s m args below meth c C H locs ls hP hS hl)

theorem z_if_lt {x : Int} {off : Int} {tgt : Nat} (hd : decode Y.2.1 pc = .ok (.ifCond .lt off, 3)) (ht : (pc : Int) + off = (tgt : Int)) (rx : -2147483648 ≤ x ∧ x < 2147483648)
    (kt : x < 0 → zW G Y Q tgt lo st M) (kf : 0 ≤ x → zW G Y Q (pc + 3) lo st M) : zW G Y Q pc lo (.inl x :: st) M := by
  intro p e s m args below meth c C H locs ls hP hS hl
  obtain ⟨hx, hb, hml, hr, hts, hown, hlk, hK, hSt, hJ, hN⟩ := id C
  have ry : (-2147483648 : Int) ≤ 0 ∧ (0 : Int) < 2147483648 := by omega

  exact lv_if_lt hx hb hd ht (fun h => kt ((zn_lt (b := 0) rx ry).mp h) p e s m args below meth c C H locs ls hP hS hl) (fun h => kf (Int.not_lt.mp (fun q => h ((zn_lt (b := 0) rx ry).mpr q))) p e s m args below meth c C H locs ls hP hS hl)

theorem z_icmp_ge {x y : Int} {off : Int} {tgt : Nat} (hd : decode Y.2.1 pc = .ok (.if_icmp .ge off, 3)) (ht : (pc : Int) + off = (tgt : Int)) (rx : -2147483648 ≤ x ∧ x < 2147483648) (ry : -2147483648 ≤ y ∧ y < 2147483648)
    (kt : y ≤ x → zW G Y Q tgt lo st M) (kf : x < y → zW G Y Q (pc + 3) lo st M) : zW G Y Q pc lo (.inl y :: .inl x :: st) M := by
  intro p e s m args below meth c C H locs ls hP hS hl
  obtain ⟨hx, hb, hml, hr, hts, hown, hlk, hK, hSt, hJ, hN⟩ := id C

  exact lv_icmp_ge hx hb hd ht (fun h => kt ((zn_le (a := y) ry rx).mp h) p e s m args below meth c C H locs ls hP hS hl) (fun h => kf (Int.not_le.mp (fun q => h ((zn_le (a := y) ry rx).mpr q))) p e s m args below meth c C H locs ls hP hS hl)

theorem z_if_ge {x : Int} {off : Int} {tgt : Nat} (hd : decode Y.2.1 pc = .ok (.ifCond .ge off, 3)) (ht : (pc : Int) + off = (tgt : Int)) (rx : -2147483648 ≤ x ∧ x < 2147483648)
    (kt : 0 ≤ x → zW G Y Q tgt lo st M) (kf : x < 0 → zW G Y Q (pc + 3) lo st M) : zW G Y Q pc lo (.inl x :: st) M := by
  intro p e s m args below meth c C H locs ls hP hS hl
  obtain ⟨hx, hb, hml, hr, hts, hown, hlk, hK, hSt, hJ, hN⟩ := id C
  have ry : (-2147483648 : Int) ≤ 0 ∧ (0 : Int) < 2147483648 := by omega

  exact lv_if_ge hx hb hd ht (fun h => kt ((zn_le (a := 0) ry rx).mp h) p e s m args below meth c C H locs ls hP hS hl) (fun h => kf (Int.not_le.mp (fun q => h ((zn_le (a := 0) ry rx).mpr q))) p e s m args below meth c C H locs ls hP hS hl)

theorem z_icmp_gt {x y : Int} {off : Int} {tgt : Nat} (hd : decode Y.2.1 pc = .ok (.if_icmp .gt off, 3)) (ht : (pc : Int) + off = (tgt : Int)) (rx : -2147483648 ≤ x ∧ x < 2147483648) (ry : -2147483648 ≤ y ∧ y < 2147483648)
    (kt : y < x → zW G Y Q tgt lo st M) (kf : x ≤ y → zW G Y Q (pc + 3) lo st M) : zW G Y Q pc lo (.inl y :: .inl x :: st) M := by
  intro p e s m args below meth c C H locs ls hP hS hl
  obtain ⟨hx, hb, hml, hr, hts, hown, hlk, hK, hSt, hJ, hN⟩ := id C

  exact lv_icmp_gt hx hb hd ht (fun h => kt ((zn_lt (a := y) ry rx).mp h) p e s m args below meth c C H locs ls hP hS hl) (fun h => kf (Int.not_lt.mp (fun q => h ((zn_lt (a := y) ry rx).mpr q))) p e s m args below meth c C H locs ls hP hS hl)

theorem z_if_gt {x : Int} {off : Int} {tgt : Nat} (hd : decode Y.2.1 pc = .ok (.ifCond .gt off, 3)) (ht : (pc : Int) + off = (tgt : Int)) (rx : -2147483648 ≤ x ∧ x < 2147483648)
    (kt : 0 < x → zW G Y Q tgt lo st M) (kf : x ≤ 0 → zW G Y Q (pc + 3) lo st M) : zW G Y Q pc lo (.inl x :: st) M := by
  intro p e s m args below meth c C H locs ls hP hS hl
  obtain ⟨hx, hb, hml, hr, hts, hown, hlk, hK, hSt, hJ, hN⟩ := id C
  have ry : (-2147483648 : Int) ≤ 0 ∧ (0 : Int) < 2147483648 := by omega

  exact lv_if_gt hx hb hd ht (fun h => kt ((zn_lt (a := 0) ry rx).mp h) p e s m args below meth c C H locs ls hP hS hl) (fun h => kf (Int.not_lt.mp (fun q => h ((zn_lt (a := 0) ry rx).mpr q))) p e s m args below meth c C H locs ls hP hS hl)

theorem z_icmp_le {x y : Int} {off : Int} {tgt : Nat} (hd : decode Y.2.1 pc = .ok (.if_icmp .le off, 3)) (ht : (pc : Int) + off = (tgt : Int)) (rx : -2147483648 ≤ x ∧ x < 2147483648) (ry : -2147483648 ≤ y ∧ y < 2147483648)
    (kt : x ≤ y → zW G Y Q tgt lo st M) (kf : y < x → zW G Y Q (pc + 3) lo st M) : zW G Y Q pc lo (.inl y :: .inl x :: st) M := by
  intro p e s m args below meth c C H locs ls hP hS hl
  obtain ⟨hx, hb, hml, hr, hts, hown, hlk, hK, hSt, hJ, hN⟩ := id C

  exact lv_icmp_le hx hb hd ht (fun h => kt ((zn_le (b := y) rx ry).mp h) p e s m args below meth c C H locs ls hP hS hl) (fun h => kf (Int.not_le.mp (fun q => h ((zn_le (b := y) rx ry).mpr q))) p e s m args below meth c C H locs ls hP hS hl)

theorem z_if_le {x : Int} {off : Int} {tgt : Nat} (hd : decode Y.2.1 pc = .ok (.ifCond .le off, 3)) (ht : (pc : Int) + off = (tgt : Int)) (rx : -2147483648 ≤ x ∧ x < 2147483648)
    (kt : x ≤ 0 → zW G Y Q tgt lo st M) (kf : 0 < x → zW G Y Q (pc + 3) lo st M) : zW G Y Q pc lo (.inl x :: st) M := by
  intro p e s m args below meth c C H locs ls hP hS hl
  obtain ⟨hx, hb, hml, hr, hts, hown, hlk, hK, hSt, hJ, hN⟩ := id C
  have ry : (-2147483648 : Int) ≤ 0 ∧ (0 : Int) < 2147483648 := by omega

  exact lv_if_le hx hb hd ht (fun h => kt ((zn_le (b := 0) rx ry).mp h) p e s m args below meth c C H locs ls hP hS hl) (fun h => kf (Int.not_le.mp (fun q => h ((zn_le (b := 0) rx ry).mpr q))) p e s m args below meth c C H locs ls hP hS hl)

theorem z_ifnonnull {off : Int} {tgt : Nat} {x : Int} (hd : decode Y.2.1 pc = .ok (.ifnonnull off, 3)) (ht : (pc : Int) + off = (tgt : Int))
    (k : zW G Y Q tgt lo st M) : zW G Y Q pc lo (.inr (some x) :: st) M := by
  intro p e s m args below meth c C H locs ls hP hS hl
  obtain ⟨hx, hb, hml, hr, hts, hown, hlk, hK, hSt, hJ, hN⟩ := id C
  exact lv_ifnonnull hx hb hd ht (k p e s m args below meth c C H locs ls hP hS hl)
theorem z_ifnonnullN {off : Int} (hd : decode Y.2.1 pc = .ok (.ifnonnull off, 3))
    (k : zW G Y Q (pc + 3) lo st M) : zW G Y Q pc lo (.inr none :: st) M := by
  intro p e s m args below meth c C H locs ls hP hS hl
  obtain ⟨hx, hb, hml, hr, hts, hown, hlk, hK, hSt, hJ, hN⟩ := id C
  exact lv_ifnonnullN hx hb hd (k p e s m args below meth c C H locs ls hP hS hl)
theorem z_tabOut {dflt a b : Int} {offs : Array Int} {len tgt : Nat} {x : Int} (hd : decode Y.2.1 pc = .ok (.tableswitch dflt a b offs, len)) (rx : -2147483648 ≤ x ∧ x < 2147483648) (h : x < a ∨ b < x) (ht : (pc : Int) + dflt = (tgt : Int))
    (k : zW G Y Q tgt lo st M) : zW G Y Q pc lo (.inl x :: st) M := by
  intro p e s m args below meth c C H locs ls hP hS hl
  obtain ⟨hx, hb, hml, hr, hts, hown, hlk, hK, hSt, hJ, hN⟩ := id C
  exact lv_tableOut hx hb hd (by rw [Int32.toInt_ofInt_of_le (by omega) (by omega)]; exact h) ht (k p e s m args below meth c C H locs ls hP hS hl)
theorem z_tabIn {dflt a b off : Int} {offs : Array Int} {len tgt : Nat} {x : Int} (hd : decode Y.2.1 pc = .ok (.tableswitch dflt a b offs, len)) (rx : -2147483648 ≤ x ∧ x < 2147483648) (h : a ≤ x ∧ x ≤ b) (ho : offs[(x - a).toNat]? = some off) (ht : (pc : Int) + off = (tgt : Int))
    (k : zW G Y Q tgt lo st M) : zW G Y Q pc lo (.inl x :: st) M := by
  intro p e s m args below meth c C H locs ls hP hS hl
  obtain ⟨hx, hb, hml, hr, hts, hown, hlk, hK, hSt, hJ, hN⟩ := id C
  have he : (Int32.ofInt x).toInt = x := Int32.toInt_ofInt_of_le (by omega) (by omega)
  exact lv_tableIn hx hb hd (by rw [he]; omega) (by rw [he]; omega) (by rw [he]; exact ho) ht (k p e s m args below meth c C H locs ls hP hS hl)
theorem z_look {dflt off : Int} {ps : Array (Int × Int)} {len tgt : Nat} {x : Int} (hd : decode Y.2.1 pc = .ok (.lookupswitch dflt ps, len)) (hp : (ps.toList.zip (ps.toList.drop 1)).all (fun (a, next) => a.1 < next.1) = true) (rx : -2147483648 ≤ x ∧ x < 2147483648) (ho : Op.lookupswitch.offset ps.toList dflt x = off) (ht : (pc : Int) + off = (tgt : Int))
    (k : zW G Y Q tgt lo st M) : zW G Y Q pc lo (.inl x :: st) M := by
  intro p e s m args below meth c C H locs ls hP hS hl
  obtain ⟨hx, hb, hml, hr, hts, hown, hlk, hK, hSt, hJ, hN⟩ := id C
  exact lv_lookup hx hb hd hp (by rw [Int32.toInt_ofInt_of_le (by omega) (by omega)]; exact ho) ht (k p e s m args below meth c C H locs ls hP hS hl)

theorem zm_tys_at (G : zG) {t : Nat} (ht : t < 4) : (zm_tys G)[t]? = some (G.2.2.1 t, zm_ty t) := by
  match t, ht with
  | 0, _ => rfl
  | 1, _ => rfl
  | 2, _ => rfl
  | 3, _ => rfl
theorem zm_W_arr (G : zG) (M : zM) {a : Int} {t n : Nat} (ha : 0 ≤ a ∧ a < 187) (hs : zm_sh a = .inl (t, n)) : (zm_W G M)[a.toNat]? = some (G.2.1 a, .inl (G.2.2.1 t, n, .inl (fun j => Int32.ofInt (M a (j : Int))))) := by
  rw [zm_W_at G M ha, hs]
  rfl
theorem zm_W_ref (G : zG) (M : zM) {a : Int} {t n : Nat} {f st : Int} (ha : 0 ≤ a ∧ a < 187) (hs : zm_sh a = .inr (.inr (t, f, st, n))) : (zm_W G M)[a.toNat]? = some (G.2.1 a, .inl (G.2.2.1 t, n, .inr (.inr (.inr (.inr (fun j => if j < n then some (G.2.1 (a + f + st * (j : Int))) else none)))))) := by
  rw [zm_W_at G M ha, hs]
  rfl
theorem zm_W_obj (G : zG) (M : zM) {a : Int} {ci : Nat} {fs : List (Option Int)} (ha : 0 ≤ a ∧ a < 187) (hs : zm_sh a = .inr (.inl (ci, fs))) : (zm_W G M)[a.toNat]? = some (G.2.1 a, .inr (ci, zm_fs G M a 0 fs)) := by
  rw [zm_W_at G M ha, hs]
  rfl
theorem z_iaload {a i : Int} {n : Nat} (hd : decode Y.2.1 pc = .ok (.iaload, 1)) (ha : 0 ≤ a ∧ a < 187) (hs : zm_sh a = .inl (0, n)) (hi : 0 ≤ i ∧ i < n) (hn : n < 2147483648)
    (k : zW G Y Q (pc + 1) lo (.inl (M a i) :: st) M) : zW G Y Q pc lo (.inl i :: .inr (some a) :: st) M := by
  intro p e s m args below meth c C H locs ls hP hS hl
  obtain ⟨hx, hb, hml, hr, hts, hown, hlk, hK, hSt, hJ, hN⟩ := id C
  refine va_iald hx hb hK hP a.toNat 0 (zm_W_arr G M ha hs) (zm_tys_at G (t := 0) (by omega)) (zn_in hi hn) hd ?_
  have he : (((Int32.ofInt i).toNatClampNeg : Nat) : Int) = i := by rw [zn_cl (by omega)]; omega
  rw [he]
  exact k p e s m args below meth c C H locs ls hP hS hl
theorem z_caload {a i : Int} {n : Nat} (hd : decode Y.2.1 pc = .ok (.caload, 1)) (ha : 0 ≤ a ∧ a < 187) (hs : zm_sh a = .inl (1, n)) (hi : 0 ≤ i ∧ i < n) (hn : n < 2147483648)
    (k : zW G Y Q (pc + 1) lo (.inl (M a i) :: st) M) : zW G Y Q pc lo (.inl i :: .inr (some a) :: st) M := by
  intro p e s m args below meth c C H locs ls hP hS hl
  obtain ⟨hx, hb, hml, hr, hts, hown, hlk, hK, hSt, hJ, hN⟩ := id C
  refine va_cald hx hb hK hP a.toNat 1 (zm_W_arr G M ha hs) (zm_tys_at G (t := 1) (by omega)) (zn_in hi hn) hd ?_
  have he : (((Int32.ofInt i).toNatClampNeg : Nat) : Int) = i := by rw [zn_cl (by omega)]; omega
  rw [he]
  exact k p e s m args below meth c C H locs ls hP hS hl
theorem zm_set_arr (G : zG) (M : zM) {a i x : Int} {t n : Nat} {y : Int32} (ha : 0 ≤ a ∧ a < 187) (hs : zm_sh a = .inl (t, n)) (hi : 0 ≤ i ∧ i < 2147483648) (hy : y = Int32.ofInt x) : (zm_W G M).set a.toNat (G.2.1 a, .inl (G.2.2.1 t, n, .inl (upd (fun j => Int32.ofInt (M a (j : Int))) (Int32.ofInt i).toNatClampNeg y))) = zm_W G (zm_up M a i x) := by
  refine zm_W_set G M _ ha ?_ (fun k hk => zm_up_off hk)
  rw [hs, hy, zn_cl hi]
  show (Sum.inl (G.2.2.1 t, n, Sum.inl (fun j : Nat => Int32.ofInt (zm_up M a i x a (j : Int)))) : va_E) = _
  congr 4
  funext j
  by_cases hj : j = i.toNat
  · subst hj
    rw [show ((i.toNat : Nat) : Int) = i by omega, zm_up_at]
    simp [upd]
  · rw [zm_up_ne (by omega)]
    simp [upd, hj]
theorem z_iastore {a i x : Int} {n : Nat} (hd : decode Y.2.1 pc = .ok (.iastore, 1)) (ha : 0 ≤ a ∧ a < 187) (hs : zm_sh a = .inl (0, n)) (hi : 0 ≤ i ∧ i < n) (hn : n < 2147483648)
    (k : zW G Y Q (pc + 1) lo st (zm_up M a i x)) : zW G Y Q pc lo (.inl x :: .inl i :: .inr (some a) :: st) M := by
  intro p e s m args below meth c C H locs ls hP hS hl
  obtain ⟨hx, hb, hml, hr, hts, hown, hlk, hK, hSt, hJ, hN⟩ := id C
  refine va_iast hx hb hK hP (zm_D hJ M) hS a.toNat 0 (zm_W_arr G M ha hs) (zm_tys_at G (t := 0) (by omega)) (zn_in hi hn) hd (fun H1 locs1 hP1 hD1 hS1 => ?_)
  rw [zm_set_arr G M ha hs (by omega) rfl] at hP1
  exact k p e s m args below meth c C H1 locs1 ls hP1 hS1 hl
theorem zn_nar {x : Int} (hx : 0 ≤ x ∧ x < 65536) : vp_nar .char (Int32.ofInt x) = Int32.ofInt x := by
  have h : ((Int32.ofInt x).toUInt32 % 65536).toInt32 = Int32.ofInt x := by
    obtain ⟨n, rfl⟩ := Int.eq_ofNat_of_zero_le hx.1
    have hn : n < 65536 := by omega
    apply Int32.toBitVec_inj.mp
    apply BitVec.eq_of_toNat_eq
    have e : (Int32.ofInt (n : Int)).toBitVec.toNat = n := by
      rw [Int32.ofInt_eq_ofNat]
      simp
      omega
    have e2 : (Int32.ofInt (n : Int)).toUInt32.toNat = n := e
    show ((Int32.ofInt (n : Int)).toUInt32 % 65536).toNat = _
    rw [UInt32.toNat_mod, e2, e]
    show n % 65536 = n
    omega
  simpa [vp_nar, narrow] using h
theorem z_castore {a i x : Int} {n : Nat} (hd : decode Y.2.1 pc = .ok (.castore, 1)) (ha : 0 ≤ a ∧ a < 187) (hs : zm_sh a = .inl (1, n)) (hi : 0 ≤ i ∧ i < n) (hn : n < 2147483648) (hx : 0 ≤ x ∧ x < 65536)
    (k : zW G Y Q (pc + 1) lo st (zm_up M a i x)) : zW G Y Q pc lo (.inl x :: .inl i :: .inr (some a) :: st) M := by
  intro p e s m args below meth c C H locs ls hP hS hl
  obtain ⟨hxx, hb, hml, hr, hts, hown, hlk, hK, hSt, hJ, hN⟩ := id C
  refine va_cast hxx hb hK hP (zm_D hJ M) hS a.toNat 1 (zm_W_arr G M ha hs) (zm_tys_at G (t := 1) (by omega)) (zn_in hi hn) hd (fun H1 locs1 hP1 hD1 hS1 => ?_)
  rw [zm_set_arr G M ha hs (by omega) (zn_nar hx)] at hP1
  exact k p e s m args below meth c C H1 locs1 ls hP1 hS1 hl
theorem z_alen {a : Int} {t n : Nat} (hd : decode Y.2.1 pc = .ok (.arraylength, 1)) (ha : 0 ≤ a ∧ a < 187) (hs : zm_sh a = .inl (t, n)) (ht : t < 4)
    (k : zW G Y Q (pc + 1) lo (.inl (n : Int) :: st) M) : zW G Y Q pc lo (.inr (some a) :: st) M := by
  intro p e s m args below meth c C H locs ls hP hS hl
  obtain ⟨hx, hb, hml, hr, hts, hown, hlk, hK, hSt, hJ, hN⟩ := id C
  exact va_alen hx hb hK hP a.toNat t (zm_W_arr G M ha hs) (zm_tys_at G ht) (v := Int32.ofInt (n : Int)) Int32.ofInt_eq_ofNat.symm hd (k p e s m args below meth c C H locs ls hP hS hl)
theorem z_alenR {a : Int} {t n : Nat} {f sp : Int} (hd : decode Y.2.1 pc = .ok (.arraylength, 1)) (ha : 0 ≤ a ∧ a < 187) (hs : zm_sh a = .inr (.inr (t, f, sp, n))) (ht : t < 4)
    (k : zW G Y Q (pc + 1) lo (.inl (n : Int) :: st) M) : zW G Y Q pc lo (.inr (some a) :: st) M := by
  intro p e s m args below meth c C H locs ls hP hS hl
  obtain ⟨hx, hb, hml, hr, hts, hown, hlk, hK, hSt, hJ, hN⟩ := id C
  exact va_alen hx hb hK hP a.toNat t (zm_W_ref G M ha hs) (zm_tys_at G ht) (v := Int32.ofInt (n : Int)) Int32.ofInt_eq_ofNat.symm hd (k p e s m args below meth c C H locs ls hP hS hl)
theorem z_aaload {a i b : Int} {t n : Nat} {f sp : Int} (hd : decode Y.2.1 pc = .ok (.aaload, 1)) (ha : 0 ≤ a ∧ a < 187) (hs : zm_sh a = .inr (.inr (t, f, sp, n))) (ht : t < 4) (hi : 0 ≤ i ∧ i < n) (hn : n < 2147483648) (hrf : (zm_ty t).isReference = true) (hb' : a + f + sp * i = b)
    (k : zW G Y Q (pc + 1) lo (.inr (some b) :: st) M) : zW G Y Q pc lo (.inl i :: .inr (some a) :: st) M := by
  subst hb'
  intro p e s m args below meth c C H locs ls hP hS hl
  obtain ⟨hx, hb, hml, hr, hts, hown, hlk, hK, hSt, hJ, hN⟩ := id C
  have hcell := hP a.toNat _ (zm_W_ref G M ha hs)
  have hlt : (Int32.ofInt i).toNatClampNeg < n := by rw [zn_cl (by omega)]; omega
  have he : (((Int32.ofInt i).toNatClampNeg : Nat) : Int) = i := by rw [zn_cl (by omega)]; omega
  have hin := zn_in hi hn
  refine W.aald (v := .ref (G.2.1 (a + f + sp * i))) (ty := zm_ty t) hx hb hcell ((hK.2 t _ (zm_tys_at G ht)).1 n _) hrf (fun q => by cases q) (by show ¬ (_ ∨ (arrV _ _ _).slots.size ≤ _); rw [arrV_size]; exact hin) ?_ rfl rfl hd (k p e s m args below meth c C H locs ls hP hS hl)
  show (arrV _ _ _).slots[_]? = _
  rw [arrV_read _ _ hlt]
  show some (va_rf (if _ then _ else _)) = _
  rw [if_pos hlt, he]
  rfl
/-- the static arrays -/
theorem z_getst {index : Nat} {t : Nat} (hd : decode Y.2.1 pc = .ok (.getstatic index, 3)) (ht : t < 3) (hlink : Cond.fieldLink Y.1 index RX4 (zm_st t).1 "[I" ∈ zT)
    (k : zW G Y Q (pc + 3) lo (.inr (some (1000 + (t : Int))) :: st) M) : zW G Y Q pc lo st M := by
  intro p e s m args below meth c C H locs ls hP hS hl
  obtain ⟨hx, hb, hml, hr, hts, hown, hlk, hK, hSt, hJ, hN⟩ := id C
  exact va_gets hx hb (hSt t ht).1 hS hown (hts _ hlink) (fun x h => h) hd (k p e s m args below meth c C H locs ls hP hS hl)
theorem z_getstN {index : Nat} {t : Nat} {host : String} (hd : decode Y.2.1 pc = .ok (.getstatic index, 3)) (ht : t < 3) (hlink : Cond.fieldLinkNest Y.1 index RX4 (zm_st t).1 "[I" host ∈ zTN)
    (k : zW G Y Q (pc + 3) lo (.inr (some (1000 + (t : Int))) :: st) M) : zW G Y Q pc lo st M := by
  intro p e s m args below meth c C H locs ls hP hS hl
  obtain ⟨hx, hb, hml, hr, hts, hown, hlk, hK, hSt, hJ, hN⟩ := id C
  exact va_getsN hx hb (hSt t ht).1 hS hown ((hN _ hlink).use rfl) (fun x h => h) hd (k p e s m args below meth c C H locs ls hP hS hl)
theorem z_stload {a i x : Int} {t : Nat} (hd : decode Y.2.1 pc = .ok (.iaload, 1)) (ha : a = 1000 + (t : Int)) (ht : t < 3) (hi : 0 ≤ i ∧ i < (zm_st t).2.length) (hv : (zm_st t).2.getD i.toNat 0 = x)
    (k : zW G Y Q (pc + 1) lo (.inl x :: st) M) : zW G Y Q pc lo (.inl i :: .inr (some a) :: st) M := by
  subst ha
  intro p e s m args below meth c C H locs ls hP hS hl
  obtain ⟨hx, hb, hml, hr, hts, hown, hlk, hK, hSt, hJ, hN⟩ := id C
  have hl5 : (zm_st t).2.length < 2147483648 := by
    match t, ht with
    | 0, _ => decide
    | 1, _ => decide
    | 2, _ => decide
  exact va_ti hx hb (hSt t ht).2 hS (zn_in hi hl5) (by rw [zn_cl (by omega), hv]; rfl) hd (k p e s m args below meth c C H locs ls hP hS hl)
theorem z_stlen {a : Int} {t : Nat} (hd : decode Y.2.1 pc = .ok (.arraylength, 1)) (ha : a = 1000 + (t : Int)) (ht : t < 3)
    (k : zW G Y Q (pc + 1) lo (.inl ((zm_st t).2.length : Int) :: st) M) : zW G Y Q pc lo (.inr (some a) :: st) M := by
  subst ha
  intro p e s m args below meth c C H locs ls hP hS hl
  obtain ⟨hx, hb, hml, hr, hts, hown, hlk, hK, hSt, hJ, hN⟩ := id C
  exact va_tlen hx hb (hSt t ht).2 hS (v := Int32.ofInt ((zm_st t).2.length : Int)) Int32.ofInt_eq_ofNat.symm hd (k p e s m args below meth c C H locs ls hP hS hl)

end ZR
