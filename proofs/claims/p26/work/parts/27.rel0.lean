/-! ===== the class's pane and the row of numbers ===== -/
section ZN
variable {G : zG} {Y : zY} {Q : Option zV → zM → Prop} {pc : Nat} {lo : List (Nat × zV)} {st : List zV} {M : zM}
theorem z_niast {a i x : Int} {n : Nat} (hd : decode Y.2.1 pc = .ok (.iastore, 1)) (ha : 0 ≤ a ∧ a < 187) (hs : zm_sh a = .inl (0, n)) (hi : 0 ≤ i ∧ i < n) (hn : n < 2147483648)
    (k : ∀ M1 : zM, M1 = zm_up M a i x → zW G Y Q (pc + 1) lo st M1) : zW G Y Q pc lo (.inl x :: .inl i :: .inr (some a) :: st) M := z_iastore hd ha hs hi hn (k _ rfl)
theorem z_ncast {a i x : Int} {n : Nat} (hd : decode Y.2.1 pc = .ok (.castore, 1)) (ha : 0 ≤ a ∧ a < 187) (hs : zm_sh a = .inl (1, n)) (hi : 0 ≤ i ∧ i < n) (hn : n < 2147483648) (hx : 0 ≤ x ∧ x < 65536)
    (k : ∀ M1 : zM, M1 = zm_up M a i x → zW G Y Q (pc + 1) lo st M1) : zW G Y Q pc lo (.inl x :: .inl i :: .inr (some a) :: st) M := z_castore hd ha hs hi hn hx (k _ rfl)
theorem z_nput {a x kI : Int} {ci k index : Nat} {fs : List (Option Int)} (hd : decode Y.2.1 pc = .ok (.putfield index, 3)) (hL : zL Y.1 index ci k) (hfin : ((zm_cR ci).2.1 k).2.2.2 = false) (hty : zTk (zm_cT ci k) x) (ha : 0 ≤ a ∧ a < 187) (hs : zm_sh a = .inr (.inl (ci, fs))) (hf : fs[k]? = some none) (hki : (k : Int) = kI)
    (kk : ∀ M1 : zM, M1 = zm_up M a kI x → zW G Y Q (pc + 3) lo st M1) : zW G Y Q pc lo (.inl x :: .inr (some a) :: st) M := z_put hd hL hfin hty ha hs hf hki (kk _ rfl)
theorem z_ncopy {a b x : Int} {na nb index : Nat} (hd : decode Y.2.1 pc = .ok (.invokestatic index, 3)) (hlink : Cond.methodLink Y.1 index arraycopyName ∈ zT) (hnat : Cond.native arraycopyName ∈ zT) (hstat : Cond.static arraycopyName ∈ zT) (hini : Cond.initialized "java/lang/System" ∈ zT) (hdep : 1 ≤ Y.2.2.2.2) (hst : st.length ≤ 8)
    (ha : 0 ≤ a ∧ a < 187) (hsa : zm_sh a = .inl (0, na)) (hb' : 0 ≤ b ∧ b < 187) (hsb : zm_sh b = .inl (0, nb)) (hx' : 0 ≤ x ∧ x ≤ na ∧ x ≤ nb ∧ x < 2147483648)
    (k : ∀ M1 : zM, M1 = zm_cp M a b x → zW G Y Q (pc + 3) lo st M1) : zW G Y Q pc lo (.inl x :: .inl 0 :: .inr (some b) :: .inl 0 :: .inr (some a) :: st) M := z_copy hd hlink hnat hstat hini hdep hst ha hsa hb' hsb hx' (k _ rfl)
end ZN
def zRc (M : zM) (p : Int) (σ : zS) (c : Int) : Prop := M (p + 1) c = σ c ∧ ((σ (120 + c) = 0 ∧ M (p + 2) c = -5 ∧ M (p + 3) c = -5) ∨ (0 < σ (120 + c) ∧ M (p + 2) c = σ (120 + c) - 1 ∧ M (p + 3) c = σ (240 + c)))
def zRk (M : zM) (p : Int) (σ : zS) (k : Int) : Prop := M (p + 4) k = σ (360 + 10 * k + 0) ∧ M (p + 5) k = σ (360 + 10 * k + 1) ∧ M (p + 6) k = σ (360 + 10 * k + 2) ∧ M (p + 7) k = σ (360 + 10 * k + 3) ∧ ((σ (360 + 10 * k + 4) = 0 ∧ M (p + 8) k = -5) ∨ (0 < σ (360 + 10 * k + 4) ∧ M (p + 8) k = σ (360 + 10 * k + 4))) ∧ M (p + 9) k = σ (360 + 10 * k + 5) ∧ M (p + 10) k = σ (360 + 10 * k + 6) ∧ M (p + 11) k = σ (360 + 10 * k + 7) ∧ ((σ (360 + 10 * k + 8) = 0 ∧ M (p + 12) k = -5) ∨ (0 < σ (360 + 10 * k + 8) ∧ M (p + 12) k = σ (360 + 10 * k + 8) - 1)) ∧ M (p + 13) k = σ (360 + 10 * k + 9)
def zRe (M : zM) (p : Int) (k : Int) : Prop := M (p + 7) k = 0 ∧ M (p + 8) k = -5 ∧ M (p + 9) k = 0 ∧ M (p + 10) k = 0 ∧ M (p + 11) k = 0 ∧ M (p + 12) k = -5 ∧ M (p + 13) k = 0
def zRo (M : zM) (p : Int) (σ : zS) (a b : Int) : Prop := ((a < σ 535 ∧ b < σ 535) ∧ M (p + 15 + a) b = σ (450 + 9 * a + b)) ∨ (¬ (a < σ 535 ∧ b < σ 535) ∧ M (p + 15 + a) b = 0)
/-- THE RELATION: the pane at p shows the row σ -/
def zRel (M : zM) (p : Int) (σ : zS) : Prop :=
  (∀ c : Int, 0 ≤ c → c < 120 → zRc M p σ c) ∧ (∀ k : Int, 0 ≤ k → k < σ 535 → zRk M p σ k) ∧ (∀ k : Int, σ 535 ≤ k → k < 9 → zRe M p k) ∧ (∀ a b : Int, 0 ≤ a → a < 9 → 0 ≤ b → b < 9 → zRo M p σ a b) ∧
  (M (p + 24) 0 = σ 531 ∧ M (p + 24) 1 = σ 532 ∧ M (p + 24) 2 = σ 533 ∧ M (p + 24) 3 = σ 534) ∧ M p 15 = σ 535 ∧ M p 16 = σ 536
/-- a row of numbers with more: trails and lenders are snails that were set, the ended are counted -/
def zX (σ : zS) : Prop := (∀ c : Int, 0 ≤ c → c < 120 → σ (120 + c) ≤ σ 535) ∧ (∀ k : Int, 0 ≤ k → k < σ 535 → σ (360 + 10 * k + 8) ≤ σ 535) ∧ σ 537 = sIn σ 1 ∧ (∀ k : Int, 0 ≤ k → k < σ 535 → 0 ≤ σ (360 + 10 * k + 4) ∧ σ (360 + 10 * k + 4) ≤ 9)
/-- nothing but the pane at p is changed -/
def zOff (M N : zM) (p : Int) : Prop := ∀ a : Int, (a < p ∨ p + 25 ≤ a) → N a = M a
theorem zOff.rf (M : zM) (p : Int) : zOff M M p := fun _ _ => rfl
theorem zOff.tr {M N K : zM} {p : Int} (h1 : zOff M N p) (h2 : zOff N K p) : zOff M K p := fun a ha => (h2 a ha).trans (h1 a ha)
theorem zOff.up {M N : zM} {p : Int} (h : zOff M N p) {b i v : Int} (hb : p ≤ b ∧ b < p + 25) : zOff M (zm_up N b i v) p := fun a ha => by rw [zm_up_off (by omega)]; exact h a ha
theorem zRel.mv {M N : zM} {p : Int} {σ : zS} (h : zRel M p σ) (he : ∀ a : Int, p ≤ a → a < p + 25 → N a = M a) : zRel N p σ := by
  obtain ⟨h1, h2, h3, h4, h5, h6, h7⟩ := h
  refine ⟨fun c q1 q2 => ?_, fun k q1 q2 => ?_, fun k q1 q2 => ?_, fun a b q1 q2 q3 q4 => ?_, ?_, ?_, ?_⟩
  · have := h1 c q1 q2
    unfold zRc at this ⊢
    rw [he (p + 1) (by omega) (by omega), he (p + 2) (by omega) (by omega), he (p + 3) (by omega) (by omega)]
    exact this
  · have := h2 k q1 q2
    unfold zRk at this ⊢
    rw [he (p + 4) (by omega) (by omega), he (p + 5) (by omega) (by omega), he (p + 6) (by omega) (by omega), he (p + 7) (by omega) (by omega), he (p + 8) (by omega) (by omega), he (p + 9) (by omega) (by omega), he (p + 10) (by omega) (by omega), he (p + 11) (by omega) (by omega), he (p + 12) (by omega) (by omega), he (p + 13) (by omega) (by omega)]
    exact this
  · have := h3 k q1 q2
    unfold zRe at this ⊢
    rw [he (p + 7) (by omega) (by omega), he (p + 8) (by omega) (by omega), he (p + 9) (by omega) (by omega), he (p + 10) (by omega) (by omega), he (p + 11) (by omega) (by omega), he (p + 12) (by omega) (by omega), he (p + 13) (by omega) (by omega)]
    exact this
  · have := h4 a b q1 q2 q3 q4
    unfold zRo at this ⊢
    rw [he (p + 15 + a) (by omega) (by omega)]
    exact this
  · rw [he (p + 24) (by omega) (by omega)]
    exact h5
  · rw [he p (by omega) (by omega)]
    exact h6
  · rw [he p (by omega) (by omega)]
    exact h7
/-- the relation depends on the row's own places alone -/
theorem zRel.cg {M : zM} {p : Int} {σ τ : zS} (h : zRel M p σ) (hI : zI σ) (he : ∀ j : Int, 0 ≤ j → j < 538 → τ j = σ j) : zRel M p τ := by
  obtain ⟨h1, h2, h3, h4, h5, h6, h7⟩ := h
  have hs := hI.1
  unfold zIs at hs
  have e5 := he 535 (by omega) (by omega)
  refine ⟨fun c q1 q2 => ?_, fun k q1 q2 => ?_, fun k q1 q2 => ?_, fun a b q1 q2 q3 q4 => ?_, ?_, ?_, ?_⟩
  · have := h1 c q1 q2
    unfold zRc at this ⊢
    rw [he c (by omega) (by omega), he (120 + c) (by omega) (by omega), he (240 + c) (by omega) (by omega)]
    exact this
  · rw [e5] at q2
    have := h2 k q1 q2
    unfold zRk at this ⊢
    rw [he (360 + 10 * k + 0) (by omega) (by omega), he (360 + 10 * k + 1) (by omega) (by omega), he (360 + 10 * k + 2) (by omega) (by omega), he (360 + 10 * k + 3) (by omega) (by omega), he (360 + 10 * k + 4) (by omega) (by omega), he (360 + 10 * k + 5) (by omega) (by omega), he (360 + 10 * k + 6) (by omega) (by omega), he (360 + 10 * k + 7) (by omega) (by omega), he (360 + 10 * k + 8) (by omega) (by omega), he (360 + 10 * k + 9) (by omega) (by omega)]
    exact this
  · rw [e5] at q1
    exact h3 k q1 q2
  · have := h4 a b q1 q2 q3 q4
    unfold zRo at this ⊢
    rw [e5, he (450 + 9 * a + b) (by omega) (by omega)]
    exact this
  · rw [he 531 (by omega) (by omega), he 532 (by omega) (by omega), he 533 (by omega) (by omega), he 534 (by omega) (by omega)]
    exact h5
  · rw [e5]
    exact h6
  · rw [he 536 (by omega) (by omega)]
    exact h7
theorem sLn_add (lane step : Int) : lane + sLn 0 step = sLn lane step := by
  unfold sLn
  repeat' split
  all_goals omega
theorem zfor_cg {α : Type} {f g : Int → α → α} {m : Int} : ∀ (n : Nat) (k : Int) (a : α), k + n = m → (∀ i : Int, k ≤ i → i < m → f i = g i) → zfor f k m a = zfor g k m a
  | 0, k, a, h, he => by rw [zfor_end (by omega), zfor_end (by omega)]
  | n + 1, k, a, h, he => by
    rw [zfor_step (f := f) (k := k) (by omega), zfor_step (f := g) (k := k) (by omega), he k (by omega) (by omega)]
    exact zfor_cg n (k + 1) _ (by omega) (fun i q1 q2 => he i (by omega) q2)
theorem zfor_cut {α : Type} {f : Int → α → α} {j m : Int} (hj : j ≤ m) (hz : ∀ i : Int, j ≤ i → i < m → ∀ x : α, f i x = x) : ∀ (n : Nat) (k : Int) (a : α), k + n = m → zfor f k m a = zfor f k j a
  | 0, k, a, h => by rw [zfor_end (by omega), zfor_end (by omega)]
  | n + 1, k, a, h => by
    rw [zfor_step (by omega)]
    by_cases hk : k < j
    · rw [zfor_step hk]
      exact zfor_cut hj hz n (k + 1) _ (by omega)
    · rw [hz k (by omega) (by omega), zfor_cut hj hz n (k + 1) _ (by omega), zfor_end (by omega), zfor_end (by omega)]

