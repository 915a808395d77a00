/-! ===== two objects at once ===== -/
abbrev dX : Type := zG × (Int → Nat) × Nat × zY × (Program × Env × State × MethodId × Array Value × List Frame × Method × Code) × (Room × Nat × Nat) × (State → Prop) × (Nat → Prop)
/-- addresses: the script at -1, the first object's from 0, the second one's from 500 -/
def dAd (G : zG) (g : Int → Nat) (b : Nat) (a : Int) : Nat := if a < 0 then b else if a < 500 then G.2.1 a else g (a - 500)
abbrev dGD (X : dX) : zG := (X.1.1, dAd X.1 X.2.1 X.2.2.1, X.1.2.2)
abbrev dG2 (X : dX) : zG := (X.1.1, X.2.1, X.1.2.2)
abbrev dY (X : dX) : zY := X.2.2.2.1
abbrev dF (X : dX) : Program × Env × State × MethodId × Array Value × List Frame × Method × Code := X.2.2.2.2.1
abbrev dR (X : dX) : Room × Nat × Nat := X.2.2.2.2.2.1
def dOk (X : dX) : Prop :=
  (dF X).1.tables.exec = Jvm.exec ∧ (dF X).2.2.2.2.2.2.2.code = (dY X).2.1 ∧ (dF X).2.2.2.2.2.2.2.maxLocals = (dY X).2.2.1 ∧ (∀ w ∈ zT, w.before (dF X).2.2.2.2.1 (dF X).2.2.1 = true) ∧ (dF X).2.2.1.vm.findClass (dY X).1 = some (dF X).2.2.2.1.cls ∧ va_K X.1.2.2.2 zm_cls (zm_tys X.1) (dF X).2.2.1 ∧
  zm_St X.1 X.2.2.2.2.2.2.2 (dF X).2.2.1 (dF X).2.2.1.heap ∧ zm_St (dG2 X) X.2.2.2.2.2.2.2 (dF X).2.2.1 (dF X).2.2.1.heap ∧ zm_J X.1 ∧ zm_J (dG2 X) ∧ (∀ q, zm_A X.1 q → ¬ zm_A (dG2 X) q) ∧ zNs (dF X).2.2.1 ∧ (∀ q, zm_A X.1 q → X.2.2.2.2.2.2.2 q) ∧ (∀ q, zm_A (dG2 X) q → X.2.2.2.2.2.2.2 q)
/-- THE JUDGEMENT over two objects -/
def dW (X : dX) (pc : Nat) (lo : List (Nat × zV)) (st : List zV) (M N : zM) : Prop :=
  dOk X → ∀ (H : Heap) (locs : List Loc) (ls : Array Slot), zm_GP X.1 M H → zm_GP (dG2 X) N H → va_S X.2.2.2.2.2.2.2 (dF X).2.2.1.heap H locs → lv_has ls (dY X).2.2.1 (zm_lo (dGD X) lo) →
    W (dF X).1 X.1.1 (dF X).2.1 (dR X).1 (dF X).2.2.1 (dF X).2.2.2.1 (dF X).2.2.2.2.1 (dF X).2.2.2.2.2.1 (dF X).2.2.2.2.2.2.1 (dF X).2.2.2.2.2.2.2 H locs (dR X).2.1 (dR X).2.2 X.2.2.2.2.2.2.1 (F0 (dF X).2.2.2.1 pc ls (zm_sk (dGD X) st))
section DR
variable {X : dX} {pc : Nat} {lo : List (Nat × zV)} {st : List zV} {M N : zM}
theorem d_iconst {n : Int} (hd : decode (dY X).2.1 pc = .ok (.iconst n, 1)) 
    (k : dW X (pc + 1) lo (.inl n :: st) M N) : dW X pc lo st M N := by
  obtain ⟨G, g, b, Y, ⟨p, e, s, m, args, below, meth, c⟩, ⟨R, kC, nC⟩, Qe, A⟩ := X
  intro C H locs ls hP hP2 hS hl
  obtain ⟨hx, hb, hml, hts, hown, hK, hSt, hSt2, hJ, hJ2, hdis, hN, hA1, hA2⟩ := id C
  exact lv_iconst hx hb hd rfl (k C H locs ls hP hP2 hS hl)

theorem d_bipush {n : Int} (hd : decode (dY X).2.1 pc = .ok (.bipush n, 2)) (hv : (Int8.ofInt n).toInt32 = Int32.ofInt n)
    (k : dW X (pc + 2) lo (.inl n :: st) M N) : dW X pc lo st M N := by
  obtain ⟨G, g, b, Y, ⟨p, e, s, m, args, below, meth, c⟩, ⟨R, kC, nC⟩, Qe, A⟩ := X
  intro C H locs ls hP hP2 hS hl
  obtain ⟨hx, hb, hml, hts, hown, hK, hSt, hSt2, hJ, hJ2, hdis, hN, hA1, hA2⟩ := id C
  exact lv_bipush hx hb hd hv (k C H locs ls hP hP2 hS hl)

theorem d_ldc {n : Int} {index : Nat} (hd : decode (dY X).2.1 pc = .ok (.ldc index, 2)) (hc : Jvm.Cond.constant (dY X).1 index (Int32.ofInt n) ∈ zT)
    (k : dW X (pc + 2) lo (.inl n :: st) M N) : dW X pc lo st M N := by
  obtain ⟨G, g, b, Y, ⟨p, e, s, m, args, below, meth, c⟩, ⟨R, kC, nC⟩, Qe, A⟩ := X
  intro C H locs ls hP hP2 hS hl
  obtain ⟨hx, hb, hml, hts, hown, hK, hSt, hSt2, hJ, hJ2, hdis, hN, hA1, hA2⟩ := id C
  exact lv_ldc hx hb hown (hts _ hc) hd (k C H locs ls hP hP2 hS hl)

theorem d_iload_n {i : Fin 4} {x : Int} (hd : decode (dY X).2.1 pc = .ok (.iload_n i, 1)) (hk : zk lo i = some (.inl x))
    (k : dW X (pc + 1) lo (.inl x :: st) M N) : dW X pc lo st M N := by
  obtain ⟨G, g, b, Y, ⟨p, e, s, m, args, below, meth, c⟩, ⟨R, kC, nC⟩, Qe, A⟩ := X
  intro C H locs ls hP hP2 hS hl
  obtain ⟨hx, hb, hml, hts, hown, hK, hSt, hSt2, hJ, hJ2, hdis, hN, hA1, hA2⟩ := id C
  exact lv_iload_n hx hb hd rfl (zk_lv hl hk) (k C H locs ls hP hP2 hS hl)

theorem d_iload {i : Nat} {x : Int} (hd : decode (dY X).2.1 pc = .ok (.iload i, 2)) (hk : zk lo i = some (.inl x))
    (k : dW X (pc + 2) lo (.inl x :: st) M N) : dW X pc lo st M N := by
  obtain ⟨G, g, b, Y, ⟨p, e, s, m, args, below, meth, c⟩, ⟨R, kC, nC⟩, Qe, A⟩ := X
  intro C H locs ls hP hP2 hS hl
  obtain ⟨hx, hb, hml, hts, hown, hK, hSt, hSt2, hJ, hJ2, hdis, hN, hA1, hA2⟩ := id C
  exact lv_iload hx hb hd (zk_lv hl hk) (k C H locs ls hP hP2 hS hl)

theorem d_aload_n {i : Fin 4} {x : Int} (hd : decode (dY X).2.1 pc = .ok (.aload_n i, 1)) (hk : zk lo i = some (.inr (some x)))
    (k : dW X (pc + 1) lo (.inr (some x) :: st) M N) : dW X pc lo st M N := by
  obtain ⟨G, g, b, Y, ⟨p, e, s, m, args, below, meth, c⟩, ⟨R, kC, nC⟩, Qe, A⟩ := X
  intro C H locs ls hP hP2 hS hl
  obtain ⟨hx, hb, hml, hts, hown, hK, hSt, hSt2, hJ, hJ2, hdis, hN, hA1, hA2⟩ := id C
  exact lv_aload_n hx hb hd rfl (zk_lv hl hk) (k C H locs ls hP hP2 hS hl)

theorem d_aload {i : Nat} {x : Int} (hd : decode (dY X).2.1 pc = .ok (.aload i, 2)) (hk : zk lo i = some (.inr (some x)))
    (k : dW X (pc + 2) lo (.inr (some x) :: st) M N) : dW X pc lo st M N := by
  obtain ⟨G, g, b, Y, ⟨p, e, s, m, args, below, meth, c⟩, ⟨R, kC, nC⟩, Qe, A⟩ := X
  intro C H locs ls hP hP2 hS hl
  obtain ⟨hx, hb, hml, hts, hown, hK, hSt, hSt2, hJ, hJ2, hdis, hN, hA1, hA2⟩ := id C
  exact lv_aload hx hb hd (zk_lv hl hk) (k C H locs ls hP hP2 hS hl)

theorem d_istore_n {i : Fin 4} {x : Int} (hd : decode (dY X).2.1 pc = .ok (.istore_n i, 1)) (hn : i < (dY X).2.2.1)
    (k : dW X (pc + 1) (zs lo i (.inl x)) st M N) : dW X pc lo (.inl x :: st) M N := by
  obtain ⟨G, g, b, Y, ⟨p, e, s, m, args, below, meth, c⟩, ⟨R, kC, nC⟩, Qe, A⟩ := X
  intro C H locs ls hP hP2 hS hl
  obtain ⟨hx, hb, hml, hts, hown, hK, hSt, hSt2, hJ, hJ2, hdis, hN, hA1, hA2⟩ := id C
  exact lv_istore_n hx hb hd rfl hl hn (zs_lo lo i (.inl x)) (fun ls' hl' => k C H locs ls' hP hP2 hS hl')

theorem d_istore {i : Nat} {x : Int} (hd : decode (dY X).2.1 pc = .ok (.istore i, 2)) (hn : i < (dY X).2.2.1)
    (k : dW X (pc + 2) (zs lo i (.inl x)) st M N) : dW X pc lo (.inl x :: st) M N := by
  obtain ⟨G, g, b, Y, ⟨p, e, s, m, args, below, meth, c⟩, ⟨R, kC, nC⟩, Qe, A⟩ := X
  intro C H locs ls hP hP2 hS hl
  obtain ⟨hx, hb, hml, hts, hown, hK, hSt, hSt2, hJ, hJ2, hdis, hN, hA1, hA2⟩ := id C
  exact lv_istore hx hb hd  hl hn (zs_lo lo i (.inl x)) (fun ls' hl' => k C H locs ls' hP hP2 hS hl')

theorem d_iinc {i : Nat} {n x : Int} (hd : decode (dY X).2.1 pc = .ok (.iinc i n, 3)) (hk : zk lo i = some (.inl x)) (hn : i < (dY X).2.2.1)
    (k : dW X (pc + 3) (zs lo i (.inl (x + n))) st M N) : dW X pc lo st M N := by
  obtain ⟨G, g, b, Y, ⟨p, e, s, m, args, below, meth, c⟩, ⟨R, kC, nC⟩, Qe, A⟩ := X
  intro C H locs ls hP hP2 hS hl
  obtain ⟨hx, hb, hml, hts, hown, hK, hSt, hSt2, hJ, hJ2, hdis, hN, hA1, hA2⟩ := id C
  obtain ⟨j, hj⟩ := zk_idx (G.1, dAd G g b, G.2.2) hk
  exact lv_iinc hx hb hd hl hj (Int32.ofInt_add x n).symm hn (zs_lo lo i (.inl (x + n))) (fun ls' hl' => k C H locs ls' hP hP2 hS hl')

theorem d_iadd {x y : Int} (hd : decode (dY X).2.1 pc = .ok (.iadd, 1))
    (k : dW X (pc + 1) lo (.inl (x + y) :: st) M N) : dW X pc lo (.inl y :: .inl x :: st) M N := by
  obtain ⟨G, g, b, Y, ⟨p, e, s, m, args, below, meth, c⟩, ⟨R, kC, nC⟩, Qe, A⟩ := X
  intro C H locs ls hP hP2 hS hl
  obtain ⟨hx, hb, hml, hts, hown, hK, hSt, hSt2, hJ, hJ2, hdis, hN, hA1, hA2⟩ := id C
  refine lv_iadd hx hb hd ?_
  rw [← Int32.ofInt_add]
  exact k C H locs ls hP hP2 hS hl

theorem d_idiv {x y : Int} (hd : decode (dY X).2.1 pc = .ok (.idiv, 1)) (h1 : 0 ≤ x ∧ x < 2147483648) (h2 : 0 < y ∧ y < 2147483648)
    (k : dW X (pc + 1) lo (.inl (x / y) :: st) M N) : dW X pc lo (.inl y :: .inl x :: st) M N := by
  obtain ⟨G, g, b, Y, ⟨p, e, s, m, args, below, meth, c⟩, ⟨R, kC, nC⟩, Qe, A⟩ := X
  intro C H locs ls hP hP2 hS hl
  obtain ⟨hx, hb, hml, hts, hown, hK, hSt, hSt2, hJ, hJ2, hdis, hN, hA1, hA2⟩ := id C
  refine lv_idiv hx hb hd (zn_ne0 h2) ?_
  rw [zn_div h1 h2]
  exact k C H locs ls hP hP2 hS hl
theorem d_irem {x y : Int} (hd : decode (dY X).2.1 pc = .ok (.irem, 1)) (h1 : 0 ≤ x ∧ x < 2147483648) (h2 : 0 < y ∧ y < 2147483648)
    (k : dW X (pc + 1) lo (.inl (x % y) :: st) M N) : dW X pc lo (.inl y :: .inl x :: st) M N := by
  obtain ⟨G, g, b, Y, ⟨p, e, s, m, args, below, meth, c⟩, ⟨R, kC, nC⟩, Qe, A⟩ := X
  intro C H locs ls hP hP2 hS hl
  obtain ⟨hx, hb, hml, hts, hown, hK, hSt, hSt2, hJ, hJ2, hdis, hN, hA1, hA2⟩ := id C
  refine lv_irem hx hb hd (zn_ne0 h2) ?_
  rw [zn_div h1 h2, ← Int32.ofInt_mul, ← Int32.ofInt_sub, show x - x / y * y = x % y by rw [Int.emod_def, Int.mul_comm]]
  exact k C H locs ls hP hP2 hS hl
theorem d_goto {off : Int} {tgt : Nat} (hd : decode (dY X).2.1 pc = .ok (.goto off, 3)) (ht : (pc : Int) + off = (tgt : Int))
    (k : dW X tgt lo st M N) : dW X pc lo st M N := by
  obtain ⟨G, g, b, Y, ⟨p, e, s, m, args, below, meth, c⟩, ⟨R, kC, nC⟩, Qe, A⟩ := X
  intro C H locs ls hP hP2 hS hl
  obtain ⟨hx, hb, hml, hts, hown, hK, hSt, hSt2, hJ, hJ2, hdis, hN, hA1, hA2⟩ := id C
  exact lv_goto hx hb hd ht (k C H locs ls hP hP2 hS hl)

theorem d_icmp_eq {x y : Int} {off : Int} {tgt : Nat} (hd : decode (dY X).2.1 pc = .ok (.if_icmp .eq off, 3)) (ht : (pc : Int) + off = (tgt : Int)) (rx : -2147483648 ≤ x ∧ x < 2147483648) (ry : -2147483648 ≤ y ∧ y < 2147483648)
    (kt : x = y → dW X tgt lo st M N) (kf : ¬ x = y → dW X (pc + 3) lo st M N) : dW X pc lo (.inl y :: .inl x :: st) M N := by
  obtain ⟨G, g, b, Y, ⟨p, e, s, m, args, below, meth, c⟩, ⟨R, kC, nC⟩, Qe, A⟩ := X
  intro C H locs ls hP hP2 hS hl
  obtain ⟨hx, hb, hml, hts, hown, hK, hSt, hSt2, hJ, hJ2, hdis, hN, hA1, hA2⟩ := id C

  exact lv_icmp_eq hx hb hd ht (fun h => kt ((zn_eq (b := y) rx ry).mp h) C H locs ls hP hP2 hS hl) (fun h => kf (fun q => h ((zn_eq (b := y) rx ry).mpr q)) C H locs ls hP hP2 hS hl)

theorem d_if_eq {x : Int} {off : Int} {tgt : Nat} (hd : decode (dY X).2.1 pc = .ok (.ifCond .eq off, 3)) (ht : (pc : Int) + off = (tgt : Int)) (rx : -2147483648 ≤ x ∧ x < 2147483648)
    (kt : x = 0 → dW X tgt lo st M N) (kf : ¬ x = 0 → dW X (pc + 3) lo st M N) : dW X pc lo (.inl x :: st) M N := by
  obtain ⟨G, g, b, Y, ⟨p, e, s, m, args, below, meth, c⟩, ⟨R, kC, nC⟩, Qe, A⟩ := X
  intro C H locs ls hP hP2 hS hl
  obtain ⟨hx, hb, hml, hts, hown, hK, hSt, hSt2, hJ, hJ2, hdis, hN, hA1, hA2⟩ := id C
  have ry : (-2147483648 : Int) ≤ 0 ∧ (0 : Int) < 2147483648 := by omega

  exact lv_if_eq hx hb hd ht (fun h => kt ((zn_eq (b := 0) rx ry).mp h) C H locs ls hP hP2 hS hl) (fun h => kf (fun q => h ((zn_eq (b := 0) rx ry).mpr q)) C H locs ls hP hP2 hS hl)

theorem d_icmp_ne {x y : Int} {off : Int} {tgt : Nat} (hd : decode (dY X).2.1 pc = .ok (.if_icmp .ne off, 3)) (ht : (pc : Int) + off = (tgt : Int)) (rx : -2147483648 ≤ x ∧ x < 2147483648) (ry : -2147483648 ≤ y ∧ y < 2147483648)
    (kt : ¬ x = y → dW X tgt lo st M N) (kf : x = y → dW X (pc + 3) lo st M N) : dW X pc lo (.inl y :: .inl x :: st) M N := by
  obtain ⟨G, g, b, Y, ⟨p, e, s, m, args, below, meth, c⟩, ⟨R, kC, nC⟩, Qe, A⟩ := X
  intro C H locs ls hP hP2 hS hl
  obtain ⟨hx, hb, hml, hts, hown, hK, hSt, hSt2, hJ, hJ2, hdis, hN, hA1, hA2⟩ := id C

  exact lv_icmp_ne hx hb hd ht (fun h => kt (fun q => h ((zn_eq (b := y) rx ry).mpr q)) C H locs ls hP hP2 hS hl) (fun h => kf ((zn_eq (b := y) rx ry).mp h) C H locs ls hP hP2 hS hl)

theorem d_if_ne {x : Int} {off : Int} {tgt : Nat} (hd : decode (dY X).2.1 pc = .ok (.ifCond .ne off, 3)) (ht : (pc : Int) + off = (tgt : Int)) (rx : -2147483648 ≤ x ∧ x < 2147483648)
    (kt : ¬ x = 0 → dW X tgt lo st M N) (kf : x = 0 → dW X (pc + 3) lo st M N) : dW X pc lo (.inl x :: st) M N := by
  obtain ⟨G, g, b, Y, ⟨p, e, s, m, args, below, meth, c⟩, ⟨R, kC, nC⟩, Qe, A⟩ := X
  intro C H locs ls hP hP2 hS hl
  obtain ⟨hx, hb, hml, hts, hown, hK, hSt, hSt2, hJ, hJ2, hdis, hN, hA1, hA2⟩ := id C
  have ry : (-2147483648 : Int) ≤ 0 ∧ (0 : Int) < 2147483648 := by omega

  exact lv_if_ne hx hb hd ht (fun h => kt (fun q => h ((zn_eq (b := 0) rx ry).mpr q)) C H locs ls hP hP2 hS hl) (fun h => kf ((zn_eq (b := 0) rx ry).mp h) C H locs ls hP hP2 hS hl)

theorem d_icmp_ge {x y : Int} {off : Int} {tgt : Nat} (hd : decode (dY X).2.1 pc = .ok (.if_icmp .ge off, 3)) (ht : (pc : Int) + off = (tgt : Int)) (rx : -2147483648 ≤ x ∧ x < 2147483648) (ry : -2147483648 ≤ y ∧ y < 2147483648)
    (kt : y ≤ x → dW X tgt lo st M N) (kf : x < y → dW X (pc + 3) lo st M N) : dW X pc lo (.inl y :: .inl x :: st) M N := by
  obtain ⟨G, g, b, Y, ⟨p, e, s, m, args, below, meth, c⟩, ⟨R, kC, nC⟩, Qe, A⟩ := X
  intro C H locs ls hP hP2 hS hl
  obtain ⟨hx, hb, hml, hts, hown, hK, hSt, hSt2, hJ, hJ2, hdis, hN, hA1, hA2⟩ := id C

  exact lv_icmp_ge hx hb hd ht (fun h => kt ((zn_le (a := y) ry rx).mp h) C H locs ls hP hP2 hS hl) (fun h => kf (Int.not_le.mp (fun q => h ((zn_le (a := y) ry rx).mpr q))) C H locs ls hP hP2 hS hl)

theorem d_if_gt {x : Int} {off : Int} {tgt : Nat} (hd : decode (dY X).2.1 pc = .ok (.ifCond .gt off, 3)) (ht : (pc : Int) + off = (tgt : Int)) (rx : -2147483648 ≤ x ∧ x < 2147483648)
    (kt : 0 < x → dW X tgt lo st M N) (kf : x ≤ 0 → dW X (pc + 3) lo st M N) : dW X pc lo (.inl x :: st) M N := by
  obtain ⟨G, g, b, Y, ⟨p, e, s, m, args, below, meth, c⟩, ⟨R, kC, nC⟩, Qe, A⟩ := X
  intro C H locs ls hP hP2 hS hl
  obtain ⟨hx, hb, hml, hts, hown, hK, hSt, hSt2, hJ, hJ2, hdis, hN, hA1, hA2⟩ := id C
  have ry : (-2147483648 : Int) ≤ 0 ∧ (0 : Int) < 2147483648 := by omega

  exact lv_if_gt hx hb hd ht (fun h => kt ((zn_lt (a := 0) ry rx).mp h) C H locs ls hP hP2 hS hl) (fun h => kf (Int.not_lt.mp (fun q => h ((zn_lt (a := 0) ry rx).mpr q))) C H locs ls hP hP2 hS hl)

/-! ===== twice the same number ===== -/
theorem d_same_ne {x : Int} {off : Int} {tgt : Nat} (hd : decode (dY X).2.1 pc = .ok (.if_icmp .ne off, 3)) (ht : (pc : Int) + off = (tgt : Int))
    (kf : dW X (pc + 3) lo st M N) : dW X pc lo (.inl x :: .inl x :: st) M N := by
  obtain ⟨G, g, b, Y, ⟨p, e, s, m, args, below, meth, c⟩, ⟨R, kC, nC⟩, Qe, A⟩ := X
  intro C H locs ls hP hP2 hS hl
  obtain ⟨hx, hb, hml, hts, hown, hK, hSt, hSt2, hJ, hJ2, hdis, hN, hA1, hA2⟩ := id C
  exact lv_icmp_ne hx hb hd ht (fun h => absurd rfl h) (fun h => kf C H locs ls hP hP2 hS hl)
/-- fewer locals -/
theorem d_sub {l2 : List (Nat × zV)} (k : dW X pc l2 st M N) (h : zall lo l2) : dW X pc lo st M N := by
  intro C H locs ls hP hP2 hS hl
  refine k C H locs ls hP hP2 hS ⟨hl.1, hl.2.1, fun q hq => ?_⟩
  obtain ⟨q1, h1, rfl⟩ := List.mem_map.mp hq
  exact hl.2.2 _ (List.mem_map.mpr ⟨q1, zall_mem h q1 h1, rfl⟩)
end DR
/-! calls -/
theorem zm_GP_kept {G : zG} {N : zM} {H H1 : Heap} (hJ : zm_J G) (h : zm_GP G N H) (hk : ∀ q : Nat, q < H.size → zm_A G q → H1[q]? = H[q]?) : zm_GP G N H1 := va_P.kept h (fun k q hq => hk q.1 (h k q hq).lt ((zm_D hJ N).2 k q hq))
theorem zm_St_n {G : zG} {A B : Nat → Prop} {U : State} {H : Heap} (h : zm_St G A U H) (hAB : ∀ q, B q → A q) : zm_St G B U H := fun k hk => ⟨(h k hk).1.narrow hAB, (h k hk).2.narrow hAB⟩
theorem dAfter {G : zG} {p : Program} {l : Launch} {e : Env} {R : Room} {s : State} {m : MethodId} {args : Array Value} {below : List Frame} {meth : Method} {c : Code} {H : Heap} {locs : List Loc} {pc k n : Nat} {ls : Array Slot} {rest st0 : List Value} {a : Array Value} {Q : State → Prop} {A : Nat → Prop} {Q1 : Option zV → zM → Prop}
    (hr : va_Run p l e R s m args below meth c H locs k n 0 0 (F0 m pc ls st0) rest (zm_Qc G Q1 a) (zm_A G)) (hS : va_S A s.heap H locs) (hA : ∀ q, zm_A G q → A q)
    (kk : ∀ (v : Option zV) (M1 : zM) (H1 : Heap) (locs1 : List Loc), Q1 v M1 → zm_GP G M1 H1 → (∀ q : Nat, q < H.size → ¬ zm_A G q → H1[q]? = H[q]?) → va_S A s.heap H1 locs1 → W p l e R s m args below meth c H1 locs1 k n Q (F0 m (pc + 3) ls ((v.map (zc G)).toList ++ rest))) : W p l e R s m args below meth c H locs k n Q (F0 m pc ls st0) := by
  intro T hT X
  obtain ⟨v, st₀, t, T', L, h0, X', hL, e1, e2, ⟨⟨v1, M1, hv, hq, hb⟩, hz, hk⟩, st⟩ := hr T hT X
  cases hv
  rw [h0] at hz hk
  obtain ⟨t2, a1, b1⟩ := kk v1 M1 T'.heap (locs ++ L) hq (by rw [e1]; exact hb) (fun q h1 h2 => by rw [e1]; exact hk q h1 h2)
    ⟨Nat.le_trans hS.1 (by rw [e1]; exact hz), fun q h1 h2 => by rw [e1, hk q (Nat.lt_of_lt_of_le h1 hS.1) (fun z => h2 (hA q z))]; exact hS.2.1 q h1 h2, fun q hq => by
      rcases List.mem_append.mp hq with h | h
      · exact hS.2.2 q h
      · exact hA _ (hL q h)⟩ T' rfl X'
  exact ⟨t2, st t2 a1, b1⟩
section DC
variable {X : dX} {pc : Nat} {lo : List (Nat × zV)} {st : List zV} {M N : zM}
/-- what an answer is: a number -/
def dNum (Q : Option zV → zM → Prop) : Prop := ∀ (v : Option zV) (M : zM), Q v M → ∃ x : Int, v = some (.inl x)

theorem d_callV1 {y : MethodName} {Y' : zY} {n index : Nat} {As rest : List zV} {Q' : Option zV → zM → Prop} (hm : zMI y Y' n) (hM : zCall X.1 y Y' (.inr (some 175) :: As) M Q') (hn1 : dNum Q') (hst : st = zstk (.inr (some 175) :: As) rest) (hAs : zm_sk (dGD X) As = zm_sk X.1 As) (hd : decode (dY X).2.1 pc = .ok (.invokevirtual index, 3)) (hlink : Cond.methodLink (dY X).1 index y ∈ zT) (hroom : (zm_rm Y'.2.2.2.2).frames + 1 ≤ (dR X).1.frames ∧ 8 + (Y'.2.2.1 + 11) + (zm_rm Y'.2.2.2.2).locals ≤ (dR X).1.locals) (hcell : (dR X).2.1 + 0 ≤ (dR X).1.cells ∧ (dR X).2.2 + 0 ≤ (dR X).1.slots) (hn : As.length = n) (hrest : rest.length ≤ 8) (hcls : (zm_cR 4).1 = y.cls)
    (k : ∀ (x : Int) (M1 : zM), Q' (some (.inl x)) M1 → dW X (pc + 3) lo (.inl x :: rest) M1 N) : dW X pc lo st M N := by
  obtain ⟨G, g, b, Y, ⟨p, e, s, m, args, below, meth, c⟩, ⟨R, kC, nC⟩, Qe, A⟩ := X
  intro C H locs ls hP hP2 hS hl
  obtain ⟨hx, hb, hml, hts, hown, hK, hSt, hSt2, hJ, hJ2, hdis, hN, hA1, hA2⟩ := id C
  obtain ⟨⟨i1, i2, ⟨i3, i4, i5⟩, i6⟩, i7, i8⟩ := hm
  subst hst
  have cw : CallW R s args Y.1 y.cls index y Y'.2.1 Y'.2.2.1 Y'.2.2.2.1 (zWs y Y') (zm_rm Y'.2.2.2.2) 0 0 n :=
    ⟨callB_of n hts (zGood y Y' i2) rfl rfl rfl (hts _ i1) (hts _ hlink) ⟨i3, i4, i5⟩ hroom, hts _ i7, hts _ i8⟩
  have hrec : ∃ cellB : Cell, H[(G).2.1 175]? = some cellB ∧ cellB.vm.isStatics = false ∧ s.vm.findClass y.cls = some cellB.cls := by
    obtain ⟨cell, g1, g2, g3⟩ := va_recv hK hP (zm_cOk (ci := 4) (by decide)).1 (zm_W_obj G M (a := 175) (by decide) zsh175)
    exact ⟨cell, g1, g2, by rw [← hcls]; exact g3⟩
  have hstk : zm_sk (G.1, dAd G g b, G.2.2) (zstk (.inr (some 175) :: As) rest) = (zm_sk G As).reverse ++ Value.ref ((G).2.1 175) :: zm_sk (G.1, dAd G g b, G.2.2) rest := by
    rw [zstk_eq, ← hAs]
    simp [zm_sk, zc, dAd]
  have hpre : ∀ U : State, U.heap = H → s.WarmedH U.vm → zPre G M U := by
    intro U hU hW
    refine ⟨by rw [hU]; exact hP, va_K.moved hW.alike hK, ?_, hJ, hN.warm hW⟩
    rw [hU]
    exact zm_St_n (zm_St.moved hW.alike (hSt.kept (fun a h1 h2 => hS.2.1 a h1 h2))) hA1
  refine dAfter (G := G) (rest := zm_sk (G.1, dAd G g b, G.2.2) rest) (va_runV (As := zm_sk G As) (b := (G).2.1 175) (nL := Y.2.2.1) ⟨hx, hb, hml, hown, hts⟩ hM cw ⟨zPre_blind, hrec, fun U hU hW => ⟨rfl, hpre U hU hW⟩⟩ rfl (by simpa [zm_sk] using hn) hl.1 hstk (lv_room (by rw [zm_cats]; exact hrest)) hd hcell) hS hA1 (fun v M1 H1 locs1 hq hP1 hk1 hS1 => ?_)
  obtain ⟨x, rfl⟩ := hn1 v M1 hq
  have q := hq
  exact k x M1 q C H1 locs1 ls hP1 (zm_GP_kept hJ2 hP2 (fun q h1 h2 => hk1 q h1 (fun z => hdis q z h2))) hS1 hl
theorem d_callS1 {y : MethodName} {Y' : zY} {n index : Nat} {As rest : List zV} {Q' : Option zV → zM → Prop} (hm : zMS y Y' n) (hM : zCall X.1 y Y' (.inr (some 175) :: As) M Q') (hn1 : dNum Q') (hst : st = zstk (.inr (some 175) :: As) rest) (hAs : zm_sk (dGD X) As = zm_sk X.1 As) (hd : decode (dY X).2.1 pc = .ok (.invokestatic index, 3)) (hlink : Cond.methodLink (dY X).1 index y ∈ zT) (hroom : (zm_rm Y'.2.2.2.2).frames + 1 ≤ (dR X).1.frames ∧ 8 + (Y'.2.2.1 + 11) + (zm_rm Y'.2.2.2.2).locals ≤ (dR X).1.locals) (hcell : (dR X).2.1 + 0 ≤ (dR X).1.cells ∧ (dR X).2.2 + 0 ≤ (dR X).1.slots) (hn : As.length + 1 = n) (hrest : rest.length ≤ 8)
    (k : ∀ (x : Int) (M1 : zM), Q' (some (.inl x)) M1 → dW X (pc + 3) lo (.inl x :: rest) M1 N) : dW X pc lo st M N := by
  obtain ⟨G, g, b, Y, ⟨p, e, s, m, args, below, meth, c⟩, ⟨R, kC, nC⟩, Qe, A⟩ := X
  intro C H locs ls hP hP2 hS hl
  obtain ⟨hx, hb, hml, hts, hown, hK, hSt, hSt2, hJ, hJ2, hdis, hN, hA1, hA2⟩ := id C
  obtain ⟨⟨i1, i2, ⟨i3, i4, i5⟩, i6⟩, i7⟩ := hm
  subst hst
  have hstk : zm_sk (G.1, dAd G g b, G.2.2) (zstk (.inr (some 175) :: As) rest) = (zm_sk G (.inr (some 175) :: As)).reverse ++ zm_sk (G.1, dAd G g b, G.2.2) rest := by
    rw [zstk_eq]
    show (zm_sk (G.1, dAd G g b, G.2.2) (.inr (some 175) :: As)).reverse ++ _ = _
    rw [show zm_sk (G.1, dAd G g b, G.2.2) (.inr (some 175) :: As) = zm_sk G (.inr (some 175) :: As) from by
      show zc _ _ :: zm_sk _ As = zc _ _ :: zm_sk _ As
      rw [← hAs]
      simp [zc, dAd]]
  have hpre : ∀ U : State, U.heap = H → s.WarmedH U.vm → zPre G M U := by
    intro U hU hW
    refine ⟨by rw [hU]; exact hP, va_K.moved hW.alike hK, ?_, hJ, hN.warm hW⟩
    rw [hU]
    exact zm_St_n (zm_St.moved hW.alike (hSt.kept (fun a h1 h2 => hS.2.1 a h1 h2))) hA1
  refine dAfter (G := G) (rest := zm_sk (G.1, dAd G g b, G.2.2) rest) (va_runS (As := zm_sk G (.inr (some 175) :: As)) (nL := Y.2.2.1) ⟨hx, hb, hml, hown, hts⟩ hM ⟨callB_of n hts (zGood y Y' i2) rfl rfl rfl (hts _ i1) (hts _ hlink) ⟨i3, i4, i5⟩ hroom, hts _ i7⟩ ⟨zPre_blind, fun U hU hW => ⟨rfl, hpre U hU hW⟩⟩ rfl (by simpa [zm_sk] using hn) hl.1 hstk (lv_room (by rw [zm_cats]; exact hrest)) hd hcell) hS hA1 (fun v M1 H1 locs1 hq hP1 hk1 hS1 => ?_)
  obtain ⟨x, rfl⟩ := hn1 v M1 hq
  have q := hq
  exact k x M1 q C H1 locs1 ls hP1 (zm_GP_kept hJ2 hP2 (fun q h1 h2 => hk1 q h1 (fun z => hdis q z h2))) hS1 hl
theorem d_callV2 {y : MethodName} {Y' : zY} {n index : Nat} {As rest : List zV} {Q' : Option zV → zM → Prop} (hm : zMI y Y' n) (hM : zCall (dG2 X) y Y' (.inr (some 175) :: As) N Q') (hn1 : dNum Q') (hst : st = zstk (.inr (some 675) :: As) rest) (hAs : zm_sk (dGD X) As = zm_sk (dG2 X) As) (hd : decode (dY X).2.1 pc = .ok (.invokevirtual index, 3)) (hlink : Cond.methodLink (dY X).1 index y ∈ zT) (hroom : (zm_rm Y'.2.2.2.2).frames + 1 ≤ (dR X).1.frames ∧ 8 + (Y'.2.2.1 + 11) + (zm_rm Y'.2.2.2.2).locals ≤ (dR X).1.locals) (hcell : (dR X).2.1 + 0 ≤ (dR X).1.cells ∧ (dR X).2.2 + 0 ≤ (dR X).1.slots) (hn : As.length = n) (hrest : rest.length ≤ 8) (hcls : (zm_cR 4).1 = y.cls)
    (k : ∀ (x : Int) (N1 : zM), Q' (some (.inl x)) N1 → dW X (pc + 3) lo (.inl x :: rest) M N1) : dW X pc lo st M N := by
  obtain ⟨G, g, b, Y, ⟨p, e, s, m, args, below, meth, c⟩, ⟨R, kC, nC⟩, Qe, A⟩ := X
  intro C H locs ls hP hP2 hS hl
  obtain ⟨hx, hb, hml, hts, hown, hK, hSt, hSt2, hJ, hJ2, hdis, hN, hA1, hA2⟩ := id C
  obtain ⟨⟨i1, i2, ⟨i3, i4, i5⟩, i6⟩, i7, i8⟩ := hm
  subst hst
  have cw : CallW R s args Y.1 y.cls index y Y'.2.1 Y'.2.2.1 Y'.2.2.2.1 (zWs y Y') (zm_rm Y'.2.2.2.2) 0 0 n :=
    ⟨callB_of n hts (zGood y Y' i2) rfl rfl rfl (hts _ i1) (hts _ hlink) ⟨i3, i4, i5⟩ hroom, hts _ i7, hts _ i8⟩
  have hrec : ∃ cellB : Cell, H[(((G.1, g, G.2.2) : zG)).2.1 175]? = some cellB ∧ cellB.vm.isStatics = false ∧ s.vm.findClass y.cls = some cellB.cls := by
    obtain ⟨cell, g1, g2, g3⟩ := va_recv hK hP2 (zm_cOk (ci := 4) (by decide)).1 (zm_W_obj ((G.1, g, G.2.2) : zG) N (a := 175) (by decide) zsh175)
    exact ⟨cell, g1, g2, by rw [← hcls]; exact g3⟩
  have hstk : zm_sk (G.1, dAd G g b, G.2.2) (zstk (.inr (some 675) :: As) rest) = (zm_sk ((G.1, g, G.2.2) : zG) As).reverse ++ Value.ref ((((G.1, g, G.2.2) : zG)).2.1 175) :: zm_sk (G.1, dAd G g b, G.2.2) rest := by
    rw [zstk_eq, ← hAs]
    simp [zm_sk, zc, dAd]
  have hpre : ∀ U : State, U.heap = H → s.WarmedH U.vm → zPre ((G.1, g, G.2.2) : zG) N U := by
    intro U hU hW
    refine ⟨by rw [hU]; exact hP2, va_K.moved hW.alike hK, ?_, hJ2, hN.warm hW⟩
    rw [hU]
    exact zm_St_n (zm_St.moved hW.alike (hSt2.kept (fun a h1 h2 => hS.2.1 a h1 h2))) hA2
  refine dAfter (G := ((G.1, g, G.2.2) : zG)) (rest := zm_sk (G.1, dAd G g b, G.2.2) rest) (va_runV (As := zm_sk ((G.1, g, G.2.2) : zG) As) (b := (((G.1, g, G.2.2) : zG)).2.1 175) (nL := Y.2.2.1) ⟨hx, hb, hml, hown, hts⟩ hM cw ⟨zPre_blind, hrec, fun U hU hW => ⟨rfl, hpre U hU hW⟩⟩ rfl (by simpa [zm_sk] using hn) hl.1 hstk (lv_room (by rw [zm_cats]; exact hrest)) hd hcell) hS hA2 (fun v N1 H1 locs1 hq hP1 hk1 hS1 => ?_)
  obtain ⟨x, rfl⟩ := hn1 v N1 hq
  have q := hq
  exact k x N1 q C H1 locs1 ls (zm_GP_kept hJ hP (fun q h1 h2 => hk1 q h1 (fun z => hdis q h2 z))) hP1 hS1 hl
theorem d_callS2 {y : MethodName} {Y' : zY} {n index : Nat} {As rest : List zV} {Q' : Option zV → zM → Prop} (hm : zMS y Y' n) (hM : zCall (dG2 X) y Y' (.inr (some 175) :: As) N Q') (hn1 : dNum Q') (hst : st = zstk (.inr (some 675) :: As) rest) (hAs : zm_sk (dGD X) As = zm_sk (dG2 X) As) (hd : decode (dY X).2.1 pc = .ok (.invokestatic index, 3)) (hlink : Cond.methodLink (dY X).1 index y ∈ zT) (hroom : (zm_rm Y'.2.2.2.2).frames + 1 ≤ (dR X).1.frames ∧ 8 + (Y'.2.2.1 + 11) + (zm_rm Y'.2.2.2.2).locals ≤ (dR X).1.locals) (hcell : (dR X).2.1 + 0 ≤ (dR X).1.cells ∧ (dR X).2.2 + 0 ≤ (dR X).1.slots) (hn : As.length + 1 = n) (hrest : rest.length ≤ 8)
    (k : ∀ (x : Int) (N1 : zM), Q' (some (.inl x)) N1 → dW X (pc + 3) lo (.inl x :: rest) M N1) : dW X pc lo st M N := by
  obtain ⟨G, g, b, Y, ⟨p, e, s, m, args, below, meth, c⟩, ⟨R, kC, nC⟩, Qe, A⟩ := X
  intro C H locs ls hP hP2 hS hl
  obtain ⟨hx, hb, hml, hts, hown, hK, hSt, hSt2, hJ, hJ2, hdis, hN, hA1, hA2⟩ := id C
  obtain ⟨⟨i1, i2, ⟨i3, i4, i5⟩, i6⟩, i7⟩ := hm
  subst hst
  have hstk : zm_sk (G.1, dAd G g b, G.2.2) (zstk (.inr (some 675) :: As) rest) = (zm_sk ((G.1, g, G.2.2) : zG) (.inr (some 175) :: As)).reverse ++ zm_sk (G.1, dAd G g b, G.2.2) rest := by
    rw [zstk_eq]
    show (zm_sk (G.1, dAd G g b, G.2.2) (.inr (some 675) :: As)).reverse ++ _ = _
    rw [show zm_sk (G.1, dAd G g b, G.2.2) (.inr (some 675) :: As) = zm_sk ((G.1, g, G.2.2) : zG) (.inr (some 175) :: As) from by
      show zc _ _ :: zm_sk _ As = zc _ _ :: zm_sk _ As
      rw [← hAs]
      simp [zc, dAd]]
  have hpre : ∀ U : State, U.heap = H → s.WarmedH U.vm → zPre ((G.1, g, G.2.2) : zG) N U := by
    intro U hU hW
    refine ⟨by rw [hU]; exact hP2, va_K.moved hW.alike hK, ?_, hJ2, hN.warm hW⟩
    rw [hU]
    exact zm_St_n (zm_St.moved hW.alike (hSt2.kept (fun a h1 h2 => hS.2.1 a h1 h2))) hA2
  refine dAfter (G := ((G.1, g, G.2.2) : zG)) (rest := zm_sk (G.1, dAd G g b, G.2.2) rest) (va_runS (As := zm_sk ((G.1, g, G.2.2) : zG) (.inr (some 175) :: As)) (nL := Y.2.2.1) ⟨hx, hb, hml, hown, hts⟩ hM ⟨callB_of n hts (zGood y Y' i2) rfl rfl rfl (hts _ i1) (hts _ hlink) ⟨i3, i4, i5⟩ hroom, hts _ i7⟩ ⟨zPre_blind, fun U hU hW => ⟨rfl, hpre U hU hW⟩⟩ rfl (by simpa [zm_sk] using hn) hl.1 hstk (lv_room (by rw [zm_cats]; exact hrest)) hd hcell) hS hA2 (fun v N1 H1 locs1 hq hP1 hk1 hS1 => ?_)
  obtain ⟨x, rfl⟩ := hn1 v N1 hq
  have q := hq
  exact k x N1 q C H1 locs1 ls (zm_GP_kept hJ hP (fun q h1 h2 => hk1 q h1 (fun z => hdis q h2 z))) hP1 hS1 hl
end DC
