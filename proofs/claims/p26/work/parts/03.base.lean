/-! ===== the machine by positions: a memory of whole numbers, over a world whose cells stand fast ===== -/
/-- what the cells hold: position, slot ↦ number -/
abbrev zM : Type := Int → Int → Int
/-- a value: a number, a position, or null -/
abbrev zV : Type := Int ⊕ Option Int
/-- a cell's kind: an array of numbers (type, length); an object (class, fields: a position, told from its own, or a number); an array of positions (type, first, step, length) -/
abbrev zK : Type := (Nat × Nat) ⊕ ((Nat × List (Option Int)) ⊕ (Nat × Int × Int × Nat))
def zm_i (x : Int) : zV := .inl x
def zm_psh (i : Int) : zK := match i.toNat with
  | 0 => .inr (.inl (1, [some 1, some 2, some 3, some 4, some 5, some 6, some 7, some 8, some 9, some 10, some 11, some 12, some 13, some 14, some 24, none, none]))
  | 1 => .inl (0, 120) | 2 => .inl (0, 120) | 3 => .inl (0, 120)
  | 14 => .inr (.inr (2, 1, 1, 9))
  | 24 => .inl (0, 4)
  | _ => .inl (0, 9)
def zm_osh (i : Int) : zK := match i.toNat with
  | 175 => .inr (.inl (4, [some (-175), some (-150), some (-125), none, some 1, some 3, some 9, none, none]))
  | 176 => .inr (.inl (0, [some 1, none, none]))
  | 177 => .inr (.inr (3, -102, 25, 4))
  | 178 => .inr (.inl (2, [some 1, none, none, none, some 2, some 3, some 4, some 5]))
  | 179 => .inl (1, 60)
  | 180 => .inl (0, 21) | 181 => .inl (0, 21) | 182 => .inl (0, 21) | 183 => .inl (0, 21)
  | 184 => .inr (.inl (3, [some 1, some 2]))
  | 185 => .inl (0, 120) | 186 => .inl (0, 120)
  | _ => .inl (0, 6)
def zm_sh (k : Int) : zK := if k < 175 then zm_psh (k % 25) else zm_osh k
/-- a pane's position -/
def zP (p : Int) : Prop := 0 ≤ p ∧ p < 175 ∧ p % 25 = 0
theorem zm_sh_p {p : Int} (hp : zP p) (i : Int) (h : 0 ≤ i ∧ i < 25) : zm_sh (p + i) = zm_psh i := by
  obtain ⟨h1, h2, h3⟩ := hp
  unfold zm_sh
  rw [if_pos (by omega), show (p + i) % 25 = i by omega]
theorem zm_sh_p0 {p : Int} (hp : zP p) : zm_sh p = zm_psh 0 := by
  have := zm_sh_p hp 0 (by omega)
  rwa [Int.add_zero] at this
abbrev zm_cls : List vw_C := [(RX0, TX0, 3), (RX1, TX1, 17), (RX2, TX2, 8), (RX3, TX3, 2), (RX4, TX4, 9)]
def zm_ty (t : Nat) : FieldType := match t with
  | 0 => .int | 1 => .char | 2 => .array .int | _ => .object RX1
/-- the launch, the addresses, the array classes, the classes and their slots -/
abbrev zG : Type := Launch × (Int → Nat) × (Nat → ClassId) × va_G
abbrev zm_tys (G : zG) : List (ClassId × FieldType) := [(G.2.2.1 0, zm_ty 0), (G.2.2.1 1, zm_ty 1), (G.2.2.1 2, zm_ty 2), (G.2.2.1 3, zm_ty 3)]
def zc (G : zG) : zV → Value
  | .inl x => .int (Int32.ofInt x)
  | .inr (some k) => .ref (G.2.1 k)
  | .inr none => .null
theorem zc_cat (G : zG) (v : zV) : (zc G v).category = 1 := by
  rcases v with x | (_ | k) <;> rfl
def zm_fs (G : zG) (M : zM) (k : Int) : Nat → List (Option Int) → List Value
  | _, [] => []
  | i, none :: r => .int (Int32.ofInt (M k i)) :: zm_fs G M k (i + 1) r
  | i, some o :: r => .ref (G.2.1 (k + o)) :: zm_fs G M k (i + 1) r
def zm_ce (G : zG) (M : zM) (k : Int) : zK → va_E
  | .inl (t, n) => .inl (G.2.2.1 t, n, .inl (fun j => Int32.ofInt (M k (j : Int))))
  | .inr (.inl (ci, fs)) => .inr (ci, zm_fs G M k 0 fs)
  | .inr (.inr (t, o, st, n)) => .inl (G.2.2.1 t, n, .inr (.inr (.inr (.inr (fun j => if j < n then some (G.2.1 (k + o + st * (j : Int))) else none)))))
/-- how many positions there are -/
abbrev zN : Nat := 187
def zm_W (G : zG) (M : zM) : va_W := (List.range zN).map (fun j : Nat => (G.2.1 (j : Int), zm_ce G M (j : Int) (zm_sh (j : Int))))
def zm_A (G : zG) : Nat → Prop := fun q => ∃ j : Nat, j < zN ∧ q = G.2.1 (j : Int)
/-- the addresses are apart -/
def zm_J (G : zG) : Prop := ∀ i j : Nat, i < zN → j < zN → G.2.1 (i : Int) = G.2.1 (j : Int) → i = j
theorem zm_W_get (G : zG) (M : zM) {j : Nat} (h : j < zN) : (zm_W G M)[j]? = some (G.2.1 (j : Int), zm_ce G M (j : Int) (zm_sh (j : Int))) := by
  unfold zm_W
  rw [List.getElem?_map, List.getElem?_range h]
  rfl
theorem zm_W_at (G : zG) (M : zM) {a : Int} (h : 0 ≤ a ∧ a < 187) : (zm_W G M)[a.toNat]? = some (G.2.1 a, zm_ce G M a (zm_sh a)) := by
  have e := zm_W_get G M (j := a.toNat) (show a.toNat < 187 by omega)
  rw [show ((a.toNat : Nat) : Int) = a by omega] at e
  exact e
theorem zm_W_len (G : zG) (M : zM) : (zm_W G M).length = zN := by simp [zm_W]
theorem zm_D {G : zG} (hJ : zm_J G) (M : zM) : va_D (zm_A G) (zm_W G M) := by
  have key : ∀ (i : Nat) (p : Nat × va_E), (zm_W G M)[i]? = some p → i < zN ∧ p.1 = G.2.1 (i : Int) := by
    intro i p h
    have hl := (List.getElem?_eq_some_iff.mp h).1
    rw [zm_W_len] at hl
    rw [zm_W_get G M hl] at h
    cases h
    exact ⟨hl, rfl⟩
  refine ⟨fun i j p q hp hq hpq => ?_, fun k q hq => ?_⟩
  · obtain ⟨a1, a2⟩ := key i p hp
    obtain ⟨b1, b2⟩ := key j q hq
    exact hJ i j a1 b1 (a2.symm.trans (hpq.trans b2))
  · obtain ⟨a1, a2⟩ := key k q hq
    exact ⟨k, a1, a2⟩
theorem zm_W_set (G : zG) (M M' : zM) {a : Int} (h : 0 ≤ a ∧ a < 187) {e : va_E} (he : zm_ce G M' a (zm_sh a) = e) (ho : ∀ k : Int, k ≠ a → M' k = M k) : (zm_W G M).set a.toNat (G.2.1 a, e) = zm_W G M' := by
  have hl : a.toNat < zN := by show a.toNat < 187; omega
  apply List.ext_getElem?
  intro i
  by_cases hi : i = a.toNat
  · subst hi
    rw [List.getElem?_set_self (by rw [zm_W_len]; exact hl), zm_W_at G M' h, he]
  · rw [List.getElem?_set_ne (Ne.symm hi)]
    by_cases hl2 : i < zN
    · rw [zm_W_get G M hl2, zm_W_get G M' hl2]
      have e1 : M' (i : Int) = M (i : Int) := ho _ (by omega)
      have e2 : ∀ (j : Nat) (fs : List (Option Int)), zm_fs G M' (i : Int) j fs = zm_fs G M (i : Int) j fs := by
        intro j fs
        induction fs generalizing j with
        | nil => rfl
        | cons f r ih => cases f <;> simp [zm_fs, ih, e1]
      have e3 : zm_ce G M' (i : Int) (zm_sh (i : Int)) = zm_ce G M (i : Int) (zm_sh (i : Int)) := by
        rcases zm_sh (i : Int) with ⟨t, n⟩ | (⟨ci, fs⟩ | ⟨t, o, st, n⟩)
        · simp [zm_ce, e1]
        · simp [zm_ce, e2]
        · rfl
      rw [e3]
    · rw [List.getElem?_eq_none (by rw [zm_W_len]; omega), List.getElem?_eq_none (by rw [zm_W_len]; omega)]
/-- a write -/
def zm_up (M : zM) (a i v : Int) : zM := fun k j => if k = a ∧ j = i then v else M k j
theorem zm_up_off {M : zM} {a i v k : Int} (h : k ≠ a) : zm_up M a i v k = M k := by
  funext j
  simp [zm_up, h]
theorem zm_up_at {M : zM} {a i v : Int} : zm_up M a i v a i = v := by simp [zm_up]
theorem zm_up_ne {M : zM} {a i v j : Int} (h : j ≠ i) : zm_up M a i v a j = M a j := by simp [zm_up, h]
theorem zm_fs_len (G : zG) (M : zM) (a : Int) : ∀ (j : Nat) (fs : List (Option Int)), (zm_fs G M a j fs).length = fs.length
  | _, [] => rfl
  | j, none :: r => by simp [zm_fs, zm_fs_len G M a (j + 1) r]
  | j, some o :: r => by simp [zm_fs, zm_fs_len G M a (j + 1) r]
theorem zm_fs_get (G : zG) (M : zM) (a : Int) : ∀ (j k : Nat) (fs : List (Option Int)) (f : Option Int), fs[k]? = some f → (zm_fs G M a j fs)[k]? = some (match f with | none => .int (Int32.ofInt (M a ((j + k : Nat) : Int))) | some o => .ref (G.2.1 (a + o)))
  | _, _, [], _, h => by simp at h
  | j, 0, none :: r, f, h => by simp at h; subst h; simp [zm_fs]
  | j, 0, some o :: r, f, h => by simp at h; subst h; simp [zm_fs]
  | j, k + 1, none :: r, f, h => by
    have h1 := zm_fs_get G M a (j + 1) k r f (by simpa using h)
    simp only [zm_fs, List.getElem?_cons_succ]
    rw [h1, show j + 1 + k = j + (k + 1) by omega]
  | j, k + 1, some o :: r, f, h => by
    have h1 := zm_fs_get G M a (j + 1) k r f (by simpa using h)
    simp only [zm_fs, List.getElem?_cons_succ]
    rw [h1, show j + 1 + k = j + (k + 1) by omega]
theorem zm_fs_set (G : zG) (M : zM) (a v : Int) : ∀ (j k : Nat) (fs : List (Option Int)), fs[k]? = some none → (zm_fs G M a j fs).set k (.int (Int32.ofInt v)) = zm_fs G (zm_up M a ((j + k : Nat) : Int) v) a j fs
  | _, _, [], h => by simp at h
  | j, 0, some o :: r, h => by simp at h
  | j, 0, none :: r, h => by
    have key : ∀ (i : Nat) (fs : List (Option Int)), j < i → zm_fs G M a i fs = zm_fs G (zm_up M a ((j : Nat) : Int) v) a i fs := by
      intro i fs
      induction fs generalizing i with
      | nil => intro _; rfl
      | cons f r ih =>
        intro hi
        cases f with
        | none =>
          simp only [zm_fs]
          rw [← ih (i + 1) (by omega), zm_up_ne (by omega)]
        | some o =>
          simp only [zm_fs]
          rw [← ih (i + 1) (by omega)]
    simp only [zm_fs, List.set_cons_zero, Nat.add_zero]
    rw [zm_up_at, ← key (j + 1) r (by omega)]
  | j, k + 1, none :: r, h => by
    have h1 := zm_fs_set G M a v (j + 1) k r (by simpa using h)
    simp only [zm_fs, List.set_cons_succ]
    rw [h1, zm_up_ne (by omega), show j + 1 + k = j + (k + 1) by omega]
  | j, k + 1, some o :: r, h => by
    have h1 := zm_fs_set G M a v (j + 1) k r (by simpa using h)
    simp only [zm_fs, List.set_cons_succ]
    rw [h1, show j + 1 + k = j + (k + 1) by omega]
/-! numbers -/
theorem zn_lt {a b : Int} (ha : -2147483648 ≤ a ∧ a < 2147483648) (hb : -2147483648 ≤ b ∧ b < 2147483648) : Int32.ofInt a < Int32.ofInt b ↔ a < b := by
  rw [Int32.lt_iff_toInt_lt, Int32.toInt_ofInt_of_le (by omega) (by omega), Int32.toInt_ofInt_of_le (by omega) (by omega)]
theorem zn_le {a b : Int} (ha : -2147483648 ≤ a ∧ a < 2147483648) (hb : -2147483648 ≤ b ∧ b < 2147483648) : Int32.ofInt a ≤ Int32.ofInt b ↔ a ≤ b := by
  rw [Int32.le_iff_toInt_le, Int32.toInt_ofInt_of_le (by omega) (by omega), Int32.toInt_ofInt_of_le (by omega) (by omega)]
theorem zn_eq {a b : Int} (ha : -2147483648 ≤ a ∧ a < 2147483648) (hb : -2147483648 ≤ b ∧ b < 2147483648) : Int32.ofInt a = Int32.ofInt b ↔ a = b := by
  rw [← Int32.toInt_inj, Int32.toInt_ofInt_of_le (by omega) (by omega), Int32.toInt_ofInt_of_le (by omega) (by omega)]
theorem zn_cl {a : Int} (h : 0 ≤ a ∧ a < 2147483648) : (Int32.ofInt a).toNatClampNeg = a.toNat := Int32.toNatClampNeg_ofInt_of_le (by omega) (by omega)
theorem zn_in {a : Int} {n : Nat} (h : 0 ≤ a ∧ a < n) (hn : n < 2147483648) : vp_in (Int32.ofInt a) n := by
  intro q
  rcases q with q | q
  · have := (zn_lt (a := a) (b := 0) (by omega) (by omega)).mp q
    omega
  · rw [zn_cl (by omega)] at q
    omega
/-! the context of a method -/
/-- what the statics hold: SIDES, LEAST_SETTINGS, MOST_SETTINGS, at positions 1000, 1001, 1002 -/
def zm_st (k : Nat) : String × List Int := match k with
  | 0 => ("SIDES", [0, -1, 1])
  | 1 => ("LEAST_SETTINGS", [0, 1, 1, 1])
  | _ => ("MOST_SETTINGS", [99, 9, 20, 50])
def zm_S1 (G : zG) (A : Nat → Prop) (k : Nat) (U : State) (H : Heap) : Prop := va_Z RX4 (zm_st k).1 "[I" (.ref (G.2.1 (1000 + (k : Int)))) A U H ∧ va_T .int (G.2.1 (1000 + (k : Int))) (zm_st k).2.length (fun j => .int (Int32.ofInt ((zm_st k).2.getD j 0))) A U H
def zm_St (G : zG) (A : Nat → Prop) (U : State) (H : Heap) : Prop := ∀ k : Nat, k < 3 → zm_S1 G A k U H
theorem zm_St.moved {G : zG} {A : Nat → Prop} {u U : State} {H : Heap} (hvm : u.vm.Alike U.vm) (h : zm_St G A u H) : zm_St G A U H := fun k hk => ⟨(h k hk).1.moved hvm, (h k hk).2.moved hvm⟩
theorem zm_St.kept {G : zG} {A : Nat → Prop} {U : State} {H H1 : Heap} (h : zm_St G A U H) (hq : ∀ a : Nat, a < H.size → ¬ A a → H1[a]? = H[a]?) : zm_St G A U H1 := fun k hk => ⟨(h k hk).1.kept hq, (h k hk).2.kept hq⟩
/-- the words that every state of the run keeps, and those of nest mates -/
def zT : List Cond := lw_tbl.filter goodWord
def zm_isN : Cond → Bool
  | .fieldLinkNest .. => true
  | .methodLinkNest .. => true
  | _ => false
def zTN : List Cond := lw_tbl.filter zm_isN
theorem zin {i : Nat} {w : Cond} (h : lw_tbl[i]? = some w) (hg : goodWord w = true) : w ∈ zT := List.mem_filter.mpr ⟨List.mem_of_getElem? h, hg⟩
theorem zinN {i : Nat} {w : Cond} (h : lw_tbl[i]? = some w) (hg : zm_isN w = true) : w ∈ zTN := List.mem_filter.mpr ⟨List.mem_of_getElem? h, hg⟩
def zNs (U : State) : Prop := ∀ w ∈ zTN, va_Nw w U
theorem zNs.warm {s U : State} (hW : s.WarmedH U.vm) (h : zNs s) : zNs U := by
  intro w hw
  have hn := (List.mem_filter.mp hw).2
  have h1 := h w hw
  cases w <;> first | (simp [zm_isN] at hn; done) | exact va_Nw.warmF hW h1 | exact va_Nw.warmM hW h1
theorem zNs.same {u U : State} (hvm : u.vm = U.vm) (h : zNs u) : zNs U := by
  intro w hw
  have hn := (List.mem_filter.mp hw).2
  have h1 := h w hw
  cases w <;> first | (simp [zm_isN] at hn; done) | exact va_Nw.same rfl hvm h1
/-- a method: its class, its bytes, how many locals, its type, how deep its calls go -/
abbrev zY : Type := String × ByteArray × Nat × Option FieldType × Nat
def zm_rm (d : Nat) : Room := { frames := d, cells := 0, slots := 0, locals := 40 * d }
def zm_Cx (G : zG) (Y : zY) (p : Program) (s : State) (m : MethodId) (args : Array Value) (meth : Method) (c : Code) : Prop :=
  p.tables.exec = Jvm.exec ∧ c.code = Y.2.1 ∧ c.maxLocals = Y.2.2.1 ∧ meth.sig.returnType = Y.2.2.2.1 ∧ (∀ w ∈ zT, w.before args s = true) ∧ s.vm.findClass Y.1 = some m.cls ∧ meth.locks = false ∧ va_K G.2.2.2 zm_cls (zm_tys G) s ∧ zm_St G (zm_A G) s s.heap ∧ zm_J G ∧ zNs s
def zm_GP (G : zG) (M : zM) (H : Heap) : Prop := va_P G.2.2.2 zm_cls (zm_W G M) H
def zm_Qc (G : zG) (Q : Option zV → zM → Prop) : Array Value → State → Outcome → State → Prop := fun _ st oc t => (∃ (v : Option zV) (M' : zM), oc = .returned (v.map (zc G)) ∧ Q v M' ∧ zm_GP G M' t.heap) ∧ va_F (zm_A G) st t
def zm_lo (G : zG) (lo : List (Nat × zV)) : List (Nat × Value) := lo.map (fun q => (q.1, zc G q.2))
def zm_sk (G : zG) (st : List zV) : List Value := st.map (zc G)
/-- THE JUDGEMENT: from there, the method comes to its end with Q -/
def zW (G : zG) (Y : zY) (Q : Option zV → zM → Prop) (pc : Nat) (lo : List (Nat × zV)) (st : List zV) (M : zM) : Prop :=
  ∀ (p : Program) (e : Env) (s : State) (m : MethodId) (args : Array Value) (below : List Frame) (meth : Method) (c : Code), zm_Cx G Y p s m args meth c →
    ∀ (H : Heap) (locs : List Loc) (ls : Array Slot), zm_GP G M H → va_S (zm_A G) s.heap H locs → lv_has ls Y.2.2.1 (zm_lo G lo) →
      W p G.1 e (zm_rm Y.2.2.2.2) s m args below meth c H locs 0 0 (MQ below (zm_Qc G Q) args s 0 0 (zm_A G)) (F0 m pc ls (zm_sk G st))
/-- a local -/
def zk (lo : List (Nat × zV)) (i : Nat) : Option zV := match lo with
  | [] => none
  | q :: r => bif Nat.beq q.1 i then some q.2 else zk r i
def zs (lo : List (Nat × zV)) (i : Nat) (v : zV) : List (Nat × zV) := (i, v) :: lo.filter (fun q => !(Nat.beq q.1 i))
theorem zbeq (a b : Nat) : (a == b) = Nat.beq a b := by
  rw [Bool.eq_iff_iff]
  simp [Nat.beq_eq]
theorem zk_mem {lo : List (Nat × zV)} {i : Nat} {v : zV} (h : zk lo i = some v) : (i, v) ∈ lo := by
  induction lo with
  | nil => simp [zk] at h
  | cons q r ih =>
    unfold zk at h
    by_cases hq : q.1 = i
    · rw [show Nat.beq q.1 i = true from by rw [hq]; exact Nat.beq_refl i] at h
      cases h
      rw [← hq]
      exact List.mem_cons_self
    · rw [show Nat.beq q.1 i = false from by rw [← zbeq]; simpa using hq] at h
      exact List.mem_cons_of_mem _ (ih h)
theorem zk_lv {G : zG} {ls : Array Slot} {nL : Nat} {lo : List (Nat × zV)} (h : lv_has ls nL (zm_lo G lo)) {i : Nat} {v : zV} (hk : zk lo i = some v) : ls[i]? = some (.val (zc G v)) :=
  h.2.2 (i, zc G v) (List.mem_map.mpr ⟨(i, v), zk_mem hk, rfl⟩)
theorem zs_lo {G : zG} (lo : List (Nat × zV)) (i : Nat) (v : zV) : (i, zc G v) :: (zm_lo G lo).filter (fun q => !(q.1 == i) && !(q.1 + 1 == i && q.2.category == 2)) = zm_lo G (zs lo i v) := by
  unfold zs zm_lo
  rw [List.map_cons]
  congr 1
  rw [List.filter_map]
  congr 1
  apply List.filter_congr
  intro q _
  have hc := zc_cat G q.2
  show (!(q.1 == i) && !(q.1 + 1 == i && (zc G q.2).category == 2)) = !(Nat.beq q.1 i)
  rw [hc, ← zbeq]
  simp
/-- fewer locals -/
def zall (lo : List (Nat × zV)) : List (Nat × zV) → Prop
  | [] => True
  | q :: r => zk lo q.1 = some q.2 ∧ zall lo r
theorem zall_mem {lo : List (Nat × zV)} : ∀ {l2 : List (Nat × zV)}, zall lo l2 → ∀ q ∈ l2, q ∈ lo
  | [], _, q, h => by simp at h
  | q0 :: r, ⟨h1, h2⟩, q, h => by
    rcases List.mem_cons.mp h with h | h
    · subst h
      exact zk_mem h1
    · exact zall_mem h2 q h
theorem zsub {G : zG} {Y : zY} {Q : Option zV → zM → Prop} {pc : Nat} {lo l2 : List (Nat × zV)} {st : List zV} {M : zM} (h : zall lo l2) (k : zW G Y Q pc l2 st M) : zW G Y Q pc lo st M := by
  intro p e s m args below meth c C H locs ls hP hS hl
  refine k p e s m args below meth c C H locs ls hP hS ⟨hl.1, hl.2.1, fun q hq => ?_⟩
  obtain ⟨q1, h1, rfl⟩ := List.mem_map.mp hq
  exact hl.2.2 _ (List.mem_map.mpr ⟨q1, zall_mem h q1 h1, rfl⟩)
theorem zcong {G : zG} {Y : zY} {Q : Option zV → zM → Prop} {pc : Nat} {lo : List (Nat × zV)} {st : List zV} {M M' : zM} (h : M = M') (k : zW G Y Q pc lo st M') : zW G Y Q pc lo st M := h ▸ k

