/-! ===== texts ===== -/
def pN (T : zS) (n i : Int) : Int := if i < n then T i else -1
def nV (T : zS) (n hi i : Int) : Int := if pN T n i - 48 > 0 ∧ (48 ≤ pN T n (i + 1) ∧ pN T n (i + 1) ≤ 57) ∧ 10 * (pN T n i - 48) + pN T n (i + 1) - 48 ≤ hi then 10 * (pN T n i - 48) + pN T n (i + 1) - 48 else pN T n i - 48
def nE (T : zS) (n hi i : Int) : Int := if pN T n i - 48 > 0 ∧ (48 ≤ pN T n (i + 1) ∧ pN T n (i + 1) ≤ 57) ∧ 10 * (pN T n i - 48) + pN T n (i + 1) - 48 ≤ hi then i + 2 else i + 1
/-- a place in the text, and whether it is wrong there -/
def pS (T : zS) (n c : Int) (x : Int × Int) : Int × Int := if x.1 = 0 ∧ pN T n x.2 = c then (0, x.2 + 1) else (1, x.2)
def pM (T : zS) (n lo hi : Int) (x : Int × Int) : Int × Int := if x.1 = 0 ∧ lo ≤ pN T n x.2 - 48 ∧ pN T n x.2 - 48 ≤ (if hi < 9 then hi else 9) then (0, nE T n hi x.2) else (1, x.2)
/-- a thing from i on -/
def pA (T : zS) (n i : Int) : Int × Int := pM T n 0 5 (0, i + 1)
def pB1 (T : zS) (n i : Int) : Int × Int := pS T n 42 (pA T n i)
def pB2 (T : zS) (n i : Int) : Int × Int := pS T n 46 (pA T n i)
def pC (T : zS) (n i : Int) : Int × Int := pS T n 61 (pM T n 0 19 (pB2 T n i))
def pT (T : zS) (n i : Int) : Int × Int :=
  if pN T n i = 46 then pM T n 1 99 (0, i + 1)
  else if pN T n i = 115 then pM T n 0 99 (pB1 T n i)
  else if pN T n i = 102 then pM T n 0 9 (pC T n i)
  else (1, i)
/-- its numbers -/
def p1 (T : zS) (n i : Int) : Int := if pN T n i = 46 then nV T n 99 (i + 1) else nV T n 5 (i + 1)
def p2 (T : zS) (n i : Int) : Int := if pN T n i = 115 then nV T n 99 (pB1 T n i).2 else nV T n 19 (pB2 T n i).2
def p3 (T : zS) (n i : Int) : Int := nV T n 9 (pC T n i).2
/-- the whole text: wrong or not, the place, how many things -/
def pRn (T : zS) (n : Int) : Nat → Int → Int → (Int × Int) × Int
  | 0, i, k => ((1, i), k)
  | f + 1, i, k => if (pT T n i).1 = 0 ∧ (pT T n i).2 < n then (if (pS T n 59 (pT T n i)).1 = 0 then pRn T n f (pS T n 59 (pT T n i)).2 (k + 1) else (pS T n 59 (pT T n i), k + 1)) else (pT T n i, k + 1)
def pR (T : zS) (n i k : Int) : (Int × Int) × Int := pRn T n (n - i + 1).toNat i k
theorem nE_r (T : zS) (n hi i : Int) : i + 1 ≤ nE T n hi i ∧ nE T n hi i ≤ i + 2 := by
  unfold nE
  split <;> omega
theorem nE_n {T : zS} {n hi i : Int} (h0 : 0 ≤ pN T n i - 48) : nE T n hi i ≤ n := by
  have h1 : i < n := by
    unfold pN at h0
    split at h0
    · assumption
    · omega
  unfold nE
  split
  · rename_i h
    have h2 : i + 1 < n := by
      have := h.2.1
      unfold pN at this
      split at this
      · assumption
      · omega
    omega
  · omega
theorem pM_r {T : zS} {n lo hi : Int} {x : Int × Int} (hlo : 0 ≤ lo) (hx : x.2 ≤ n) : x.2 ≤ (pM T n lo hi x).2 ∧ (pM T n lo hi x).2 ≤ n ∧ ((pM T n lo hi x).1 = 0 ∨ (pM T n lo hi x).1 = 1) ∧ ((pM T n lo hi x).1 = 0 → x.1 = 0 ∧ x.2 + 1 ≤ (pM T n lo hi x).2) ∧ ((pM T n lo hi x).1 = 1 → (pM T n lo hi x).2 = x.2) := by
  unfold pM
  by_cases h : x.1 = 0 ∧ lo ≤ pN T n x.2 - 48 ∧ pN T n x.2 - 48 ≤ (if hi < 9 then hi else 9)
  · rw [if_pos h]
    have h1 := nE_r T n hi x.2
    have h2 := nE_n (T := T) (n := n) (hi := hi) (i := x.2) (by have := h.2.1; omega)
    have h3 := h.1
    dsimp only
    omega
  · rw [if_neg h]
    dsimp only
    omega
theorem pS_r {T : zS} {n c : Int} {x : Int × Int} (hc : 0 ≤ c) (hx : x.2 ≤ n) : x.2 ≤ (pS T n c x).2 ∧ (pS T n c x).2 ≤ n ∧ ((pS T n c x).1 = 0 ∨ (pS T n c x).1 = 1) ∧ ((pS T n c x).1 = 0 → x.1 = 0 ∧ (pS T n c x).2 = x.2 + 1) ∧ ((pS T n c x).1 = 1 → (pS T n c x).2 = x.2) := by
  unfold pS
  split
  · rename_i h
    have h2 : x.2 < n := by
      have := h.2
      unfold pN at this
      split at this
      · assumption
      · omega
    dsimp only
    omega
  · dsimp only
    omega
theorem pN_r {T : zS} {n : Int} (hT : ∀ j : Int, 0 ≤ j → j < n → 0 ≤ T j ∧ T j < 65536) {i : Int} (hi : 0 ≤ i) : -1 ≤ pN T n i ∧ pN T n i < 65536 := by
  unfold pN
  split
  · have := hT i hi (by assumption)
    omega
  · omega
theorem pN_in {T : zS} {n i : Int} (h : 0 ≤ pN T n i) : i < n := by
  unfold pN at h
  split at h
  · assumption
  · omega
theorem pT_r {T : zS} {n i : Int} (hi : i ≤ n) : i ≤ (pT T n i).2 ∧ (pT T n i).2 ≤ n ∧ ((pT T n i).1 = 0 ∨ (pT T n i).1 = 1) ∧ ((pT T n i).1 = 0 → i + 2 ≤ (pT T n i).2) := by
  unfold pT
  split
  · rename_i h
    have h0 := pN_in (T := T) (n := n) (i := i) (by omega)
    have h1 := pM_r (T := T) (n := n) (lo := 1) (hi := 99) (x := (0, i + 1)) (by omega) (by show i + 1 ≤ n; omega)
    dsimp only at h1
    omega
  · split
    · rename_i h
      have h0 := pN_in (T := T) (n := n) (i := i) (by omega)
      have h1 := pM_r (T := T) (n := n) (lo := 0) (hi := 5) (x := (0, i + 1)) (by omega) (by show i + 1 ≤ n; omega)
      have h2 := pS_r (T := T) (n := n) (c := 42) (x := pA T n i) (by omega) (by unfold pA; omega)
      have h3 := pM_r (T := T) (n := n) (lo := 0) (hi := 99) (x := pB1 T n i) (by omega) (by unfold pB1; omega)
      unfold pB1 pA at h3 ⊢
      unfold pA at h2
      dsimp only at h1
      omega
    · split
      · rename_i h
        have h0 := pN_in (T := T) (n := n) (i := i) (by omega)
        have h1 := pM_r (T := T) (n := n) (lo := 0) (hi := 5) (x := (0, i + 1)) (by omega) (by show i + 1 ≤ n; omega)
        have h2 := pS_r (T := T) (n := n) (c := 46) (x := pA T n i) (by omega) (by unfold pA; omega)
        have h3 := pM_r (T := T) (n := n) (lo := 0) (hi := 19) (x := pB2 T n i) (by omega) (by unfold pB2; omega)
        have h4 := pS_r (T := T) (n := n) (c := 61) (x := pM T n 0 19 (pB2 T n i)) (by omega) (by omega)
        have h5 := pM_r (T := T) (n := n) (lo := 0) (hi := 9) (x := pC T n i) (by omega) (by unfold pC; omega)
        unfold pC pB2 pA at h5 ⊢
        unfold pB2 pA at h4 h3
        unfold pA at h2
        dsimp only at h1
        omega
      · dsimp only
        omega
theorem pRn_f (T : zS) (n : Int) : ∀ (f g : Nat) (i k : Int), 0 ≤ i → i ≤ n → n - i + 1 ≤ f → n - i + 1 ≤ g → pRn T n f i k = pRn T n g i k
  | 0, g, i, k, h1, h2, h3, h4 => by omega
  | f + 1, 0, i, k, h1, h2, h3, h4 => by omega
  | f + 1, g + 1, i, k, h1, h2, h3, h4 => by
    unfold pRn
    have ht := pT_r (T := T) h2
    by_cases hc : (pT T n i).1 = 0 ∧ (pT T n i).2 < n
    · rw [if_pos hc, if_pos hc]
      have hs := pS_r (T := T) (n := n) (c := 59) (x := pT T n i) (by omega) (by omega)
      by_cases hc2 : (pS T n 59 (pT T n i)).1 = 0
      · rw [if_pos hc2, if_pos hc2, pRn_f T n f g _ _ (by omega) (by omega) (by omega) (by omega)]
      · rw [if_neg hc2, if_neg hc2]
    · rw [if_neg hc, if_neg hc]
theorem pR_step {T : zS} {n i k : Int} (h : 0 ≤ i ∧ i ≤ n) : pR T n i k = if (pT T n i).1 = 0 ∧ (pT T n i).2 < n then (if (pS T n 59 (pT T n i)).1 = 0 then pR T n (pS T n 59 (pT T n i)).2 (k + 1) else (pS T n 59 (pT T n i), k + 1)) else (pT T n i, k + 1) := by
  unfold pR
  rw [show (n - i + 1).toNat = (n - i).toNat + 1 by omega]
  conv => lhs; unfold pRn
  have ht := pT_r (T := T) h.2
  by_cases hc : (pT T n i).1 = 0 ∧ (pT T n i).2 < n
  · rw [if_pos hc, if_pos hc]
    have hs := pS_r (T := T) (n := n) (c := 59) (x := pT T n i) (by omega) (by omega)
    by_cases hc2 : (pS T n 59 (pT T n i)).1 = 0
    · rw [if_pos hc2, if_pos hc2]
      exact pRn_f T n _ _ _ _ (by omega) (by omega) (by omega) (by omega)
    · rw [if_neg hc2, if_neg hc2]
  · rw [if_neg hc, if_neg hc]
/-- what bars a thing, what it does -/
def sBarK (σ : zS) (kd a b c : Int) : Int := if kd = 115 then sBarS σ a b else if kd = 102 then sBarF σ a b c else sBarT σ a
def sEff (σ : zS) (kd a b c : Int) : zS := if kd = 115 then sCome σ a b else if kd = 102 then sFz σ (6 * b + a) c else sTs a σ
/-- the things done: what stopped them, how many were done, the row then -/
def pD (T : zS) (n : Int) : Nat → Int → Int → zS → (Int × Int) × zS
  | 0, _, d, σ => ((0, d), σ)
  | m + 1, i, d, σ => if sBarK σ (pN T n i) (p1 T n i) (p2 T n i) (p3 T n i) = 0 then pD T n m ((pT T n i).2 + 1) (d + 1) (sEff σ (pN T n i) (p1 T n i) (p2 T n i) (p3 T n i))
    else if sBarK σ (pN T n i) (p1 T n i) (p2 T n i) (p3 T n i) = -5 then pD T n m ((pT T n i).2 + 1) (d + 1) σ
    else ((sBarK σ (pN T n i) (p1 T n i) (p2 T n i) (p3 T n i), d), σ)
/-- from i on, m things without a fault up to the end -/
def pG (T : zS) (n : Int) : Nat → Int → Prop
  | 0, _ => True
  | m + 1, i => (0 ≤ i ∧ i ≤ n) ∧ (pT T n i).1 = 0 ∧ (m = 0 ∨ pG T n m ((pT T n i).2 + 1))
theorem pG_of (T : zS) (n : Int) : ∀ (f : Nat) (i k : Int), 0 ≤ i → i ≤ n → n - i + 1 ≤ f → (pR T n i k).1.1 = 0 → k + 1 ≤ (pR T n i k).2 ∧ (pR T n i k).2 ≤ k + (n - i + 1) ∧ pG T n ((pR T n i k).2 - k).toNat i
  | 0, i, k, h1, h2, h3, h => by omega
  | f + 1, i, k, h1, h2, h3, h => by
    have ht := pT_r (T := T) h2
    rw [pR_step ⟨h1, h2⟩] at h ⊢
    by_cases hc : (pT T n i).1 = 0 ∧ (pT T n i).2 < n
    · rw [if_pos hc] at h ⊢
      have hs := pS_r (T := T) (n := n) (c := 59) (x := pT T n i) (by omega) (by omega)
      by_cases hc2 : (pS T n 59 (pT T n i)).1 = 0
      · rw [if_pos hc2] at h ⊢
        have ih := pG_of T n f (pS T n 59 (pT T n i)).2 (k + 1) (by omega) (by omega) (by omega) h
        refine ⟨by omega, by omega, ?_⟩
        rw [show ((pR T n (pS T n 59 (pT T n i)).2 (k + 1)).2 - k).toNat = ((pR T n (pS T n 59 (pT T n i)).2 (k + 1)).2 - (k + 1)).toNat + 1 by omega]
        refine ⟨⟨h1, h2⟩, hc.1, Or.inr ?_⟩
        rw [← (hs.2.2.2.1 hc2).2]
        exact ih.2.2
      · rw [if_neg hc2] at h
        exact absurd h hc2
    · rw [if_neg hc] at h ⊢
      dsimp only at h ⊢
      refine ⟨by omega, by omega, ?_⟩
      rw [show (k + 1 - k).toNat = 0 + 1 by omega]
      exact ⟨⟨h1, h2⟩, h, Or.inl rfl⟩
/-- all that holds of a state -/
def zB (σ : zS) : Prop := zA σ ∧ σ 535 ≤ 8 ∧ (0 ≤ σ 536 ∧ σ 536 ≤ 99999)
theorem sFz_o {σ : zS} {c f j : Int} (h : j ≠ c ∧ j ≠ 120 + c ∧ j ≠ 240 + c) : sFz σ c f j = σ j := by
  unfold sFz
  rw [zu_ne h.2.2, zu_ne h.2.1, zu_ne h.1]
theorem zA_fz {σ : zS} (hA : zA σ) {c f : Int} (hc : 0 ≤ c ∧ c < 120) (hf : 0 ≤ f ∧ f ≤ 9) : zA (sFz σ c f) := by
  have hs := hA.1.1
  unfold zIs at hs
  refine ⟨zI_ag (zI_tr (zI_fr hA.1 hc hf) hc (by omega)) hc (by omega), fun d h1 h2 => ?_, fun d h1 h2 h3 => ?_⟩
  · rw [sFz_o (j := 531) (by omega)]
    by_cases hd : d = c
    · subst hd
      unfold sFz
      rw [zu_at]
      omega
    · rw [sFz_o (by omega)]
      exact hA.2.1 d h1 h2
  · by_cases hd : d = c
    · subst hd
      unfold sFz
      rw [zu_at]
    · rw [sFz_o (by omega)] at h3 ⊢
      exact hA.2.2 d h1 h2 h3
theorem zB_eff {σ : zS} (hB : zB σ) {kd a b c : Int} (h : sBarK σ kd a b c = 0) : zB (sEff σ kd a b c) ∧ zo σ (sEff σ kd a b c) := by
  obtain ⟨hA, h8, h6⟩ := hB
  have hs := hA.1.1
  unfold zIs at hs
  unfold sBarK at h
  unfold sEff
  split at h
  · rename_i hk
    rw [if_pos hk]
    obtain ⟨q1, q2, q3, q4⟩ := sBarS_0 h
    have hc := zA_come hA h8 q1 q2
    refine ⟨⟨hc.1, by rw [sCo_many (by omega)]; omega, by rw [hc.2]; exact h6⟩, zo_come (by omega)⟩
  · rename_i hk
    rw [if_neg hk]
    split at h
    · rename_i hk2
      rw [if_pos hk2]
      obtain ⟨q1, q2, q3⟩ := sBarF_0 h
      refine ⟨⟨zA_fz hA (by omega) q3, by rw [sFz_o (by omega)]; exact h8, by rw [sFz_o (by omega)]; exact h6⟩, fun j hj => sFz_o (by omega)⟩
    · rename_i hk2
      rw [if_neg hk2]
      obtain ⟨q1, q2⟩ := sBarT_0 h
      have ht := zA_ts hA (t := a) (by omega)
      refine ⟨⟨ht.1, by rw [ht.2.2 535 (by omega) (by omega)]; exact h8, by rw [ht.2.1]; omega⟩, zo_ts hA (by omega)⟩
/-- nothing but what reading changes -/
def zPk (M N : zM) : Prop := (∀ a : Int, a ≠ 187 → N a = M a) ∧ ∀ j : Int, (j < 11 ∨ 17 ≤ j) → N 187 j = M 187 j
theorem zPk.rf (M : zM) : zPk M M := ⟨fun _ _ => rfl, fun _ _ => rfl⟩
theorem zPk.tr {M N K : zM} (h1 : zPk M N) (h2 : zPk N K) : zPk M K := ⟨fun a ha => (h2.1 a ha).trans (h1.1 a ha), fun j hj => (h2.2 j hj).trans (h1.2 j hj)⟩
theorem zPk.up {M N : zM} (h : zPk M N) {i v : Int} (hi : 11 ≤ i ∧ i < 17) : zPk M (zm_up N 187 i v) := ⟨fun a ha => by rw [zm_up_off ha]; exact h.1 a ha, fun j hj => by rw [zm_up_ne (by omega)]; exact h.2 j hj⟩
theorem pT_kd {T : zS} {n i : Int} (h : (pT T n i).1 = 0) : pN T n i = 115 ∨ pN T n i = 102 ∨ pN T n i = 46 := by
  unfold pT at h
  split at h
  · omega
  · split at h
    · omega
    · split at h
      · omega
      · exact absurd h (show ¬ (1 : Int) = 0 by decide)
theorem pD_s (T : zS) (n : Int) (m : Nat) (i d : Int) (σ : zS) : pD T n (m + 1) i d σ = if sBarK σ (pN T n i) (p1 T n i) (p2 T n i) (p3 T n i) = 0 then pD T n m ((pT T n i).2 + 1) (d + 1) (sEff σ (pN T n i) (p1 T n i) (p2 T n i) (p3 T n i))
    else if sBarK σ (pN T n i) (p1 T n i) (p2 T n i) (p3 T n i) = -5 then pD T n m ((pT T n i).2 + 1) (d + 1) σ
    else ((sBarK σ (pN T n i) (p1 T n i) (p2 T n i) (p3 T n i), d), σ) := rfl

