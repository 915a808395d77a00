/-! ===== the class's own methods ===== -/
/-- nothing that is kept was changed -/
def zKp (M N : zM) : Prop := (∀ a : Int, (a < 25 ∨ (50 ≤ a ∧ a < 178) ∨ a = 179 ∨ a = 184 ∨ 187 ≤ a) → N a = M a) ∧ N 178 1 = M 178 1
theorem zKp.rf (M : zM) : zKp M M := ⟨fun _ _ => rfl, rfl⟩
theorem zKp.off {M N : zM} (h : zOff M N 25) : zKp M N := ⟨fun a ha => h a (by omega), by rw [h 178 (by omega)]⟩
theorem zKp.tr {M N K : zM} (h1 : zKp M N) (h2 : zKp N K) : zKp M K := ⟨fun a ha => (h2.1 a ha).trans (h1.1 a ha), h2.2.trans h1.2⟩
/-- an act was done: the state before it was remembered -/
def zDid (M : zM) (σ τ : zS) (N : zM) : Prop := zRel N 0 τ ∧ zRel N (75 + 25 * M 176 2) σ ∧ (∀ a : Int, ((50 ≤ a ∧ a < 178) ∨ a = 179 ∨ a = 184 ∨ 187 ≤ a) → a ≠ 176 → (a < 75 + 25 * M 176 2 ∨ 100 + 25 * M 176 2 ≤ a) → N a = M a) ∧ N 178 1 = M 178 1 ∧ N 176 1 = (if M 176 1 = 4 then 4 else M 176 1 + 1) ∧ N 176 2 = (M 176 2 + 1) % 4
def zActP (M : zM) (σ : zS) (b r : Int) (τ : zS) (v : Option zV) (N : zM) : Prop := (b < 0 ∧ v = some (.inl b) ∧ zKp M N) ∨ (b = 0 ∧ v = some (.inl r) ∧ zDid M σ τ N)
def zRem (M : zM) (σ : zS) (N : zM) : Prop := zRel N (75 + 25 * M 176 2) σ ∧ (∀ a : Int, a ≠ 176 → (a < 75 + 25 * M 176 2 ∨ 100 + 25 * M 176 2 ≤ a) → N a = M a) ∧ N 176 1 = (if M 176 1 = 4 then 4 else M 176 1 + 1) ∧ N 176 2 = (M 176 2 + 1) % 4
theorem zActP.mk {M M1 M2 M3 : zM} {σ τ : zS} {b r x : Int} {v : Option zV} (h2 : 0 ≤ M 176 2 ∧ M 176 2 < 4) (hO : zOff M M1 25) (hx : (b < 0 ∧ x = b ∧ M2 = M1) ∨ (b = 0 ∧ x = r ∧ zRel M2 0 τ ∧ zOff M1 M2 0)) (hr : 0 ≤ r) (hv : v = some (.inl x)) (hm : (x < 0 ∧ M3 = M2) ∨ (0 ≤ x ∧ zRem M2 σ M3)) : zActP M σ b r τ v M3 := by
  rcases hx with ⟨h1, rfl, rfl⟩ | ⟨rfl, rfl, hR, hO2⟩
  · rcases hm with ⟨_, rfl⟩ | ⟨h, _⟩
    · exact Or.inl ⟨h1, hv, zKp.off hO⟩
    · omega
  · rcases hm with ⟨h, _⟩ | ⟨_, g1, g2, g3, g4⟩
    · omega
    · have e : ∀ a : Int, 50 ≤ a → M2 a = M a := fun a ha => (hO2 a (by omega)).trans (hO a (by omega))
      rw [e 176 (by omega)] at g1 g2 g3 g4
      refine Or.inr ⟨rfl, hv, hR.mv (fun a q1 q2 => g2 a (by omega) (by omega)), g1, fun a q1 q2 q3 => (g2 a q2 q3).trans (e a (by omega)), ?_, g3, g4⟩
      rw [g2 178 (by omega) (by omega), e 178 (by omega)]

theorem vX4_recorded {G : zG} {M : zM} {σ : zS} {x : Int} (hxr : -2147483648 ≤ x ∧ x < 2147483648) (hR : zRel M 25 σ) (hI : zI σ) (h1 : 0 ≤ M 176 1 ∧ M 176 1 ≤ 4) (h2 : 0 ≤ M 176 2 ∧ M 176 2 < 4) : zCall G yX4_recorded YX4_recorded [.inr (some 175), .inl x] M (fun v M' => v = some (.inl x) ∧ ((x < 0 ∧ M' = M) ∨ (0 ≤ x ∧ zRem M σ M'))) := by
  refine zEnter (by decide +kernel) rfl (Nat.le_of_ble_eq_true rfl) ?_
  refine z_iload_n dX4_recorded_0 rfl ?_
  refine z_if_lt (tgt := 15) dX4_recorded_1 (by decide) (by omega) (fun c1 => ?_) (fun c1 => ?_)
  · refine z_iload_n dX4_recorded_15 rfl ?_
    refine z_iret dX4_recorded_16 rfl ?_
    first
      | exact ⟨rfl, Or.inr ⟨by omega, hq12⟩⟩
      | exact ⟨rfl, Or.inl ⟨by omega, rfl⟩⟩
  · refine z_aload_n dX4_recorded_4 rfl ?_
    refine z_getR (b := 176) dX4_recorded_5 fX4_29 (by decide) (zsh175) rfl rfl ?_
    refine z_aload_n dX4_recorded_8 rfl ?_
    refine z_getR (b := 25) dX4_recorded_9 fX4_16 (by decide) (zsh175) rfl rfl ?_
    refine z_callV mX0_remember (vX0_remember zP_25 (by decide) hR hI h1 h2) rfl dX4_recorded_12 kX4_79 (by decide) rfl (by show _ ≤ 8; simp) (by decide) (zsh176) (by decide) rfl (fun v12 M12 q12 => ?_)
    obtain ⟨rfl, hq12⟩ := q12
    try simp only [zpush]
    refine z_iload_n dX4_recorded_15 rfl ?_
    refine z_iret dX4_recorded_16 rfl ?_
    first
      | exact ⟨rfl, Or.inr ⟨by omega, hq12⟩⟩
      | exact ⟨rfl, Or.inl ⟨by omega, rfl⟩⟩

theorem vX4_setSnail {G : zG} {M : zM} {σ : zS} {lane slime : Int} (hlane : -2147483648 ≤ lane ∧ lane < 2147483648) (hslime : -2147483648 ≤ slime ∧ slime < 2147483648)  (hR : zRel M 0 σ) (hB : zB σ) (hX : zX σ) (h1 : 0 ≤ M 176 1 ∧ M 176 1 ≤ 4) (h2 : 0 ≤ M 176 2 ∧ M 176 2 < 4) : zCall G yX4_setSnail YX4_setSnail [.inr (some 175), .inl lane, .inl slime] M (fun v M' => zActP M σ (sBarS σ lane slime) (σ 535) (sCome σ lane slime) v M') := by
  refine zEnter (by decide +kernel) rfl (Nat.le_of_ble_eq_true rfl) ?_
  have hA := hB.1
  have hI := hA.1
  have hs9 := hI.1
  unfold zIs at hs9
  have h8 := hB.2.1
  have ht0 := hB.2.2
  refine z_aload_n dX4_setSnail_0 rfl ?_
  refine z_getR (b := 25) dX4_setSnail_1 fX4_16 (by decide) (zsh175) rfl rfl ?_
  refine z_aload_n dX4_setSnail_4 rfl ?_
  refine z_getR (b := 0) dX4_setSnail_5 fX4_12 (by decide) (zsh175) rfl rfl ?_
  refine z_callV mX1_copyFrom (vX1_copyFrom zP_25 zP_0 (by decide) hR hI) rfl dX4_setSnail_8 kX4_54 (by decide) rfl (by show _ ≤ 8; simp) (zP_r0 (zP_25)) (zm_sh_p0 (zP_25)) (by decide) rfl (fun v8 M8 q8 => ?_)
  obtain ⟨rfl, hR25, hO25⟩ := q8
  try simp only [zpush]
  have hR0 := hR.mv (N := M8) (fun a q1 q2 => hO25 a (by omega))
  refine z_aload_n dX4_setSnail_11 rfl ?_
  refine z_aload_n dX4_setSnail_12 rfl ?_
  refine z_getR (b := 0) dX4_setSnail_13 fX4_12 (by decide) (zsh175) rfl rfl ?_
  refine z_iload_n dX4_setSnail_16 rfl ?_
  refine z_iload_n dX4_setSnail_17 rfl ?_
  refine z_callV mX1_placeSnail (vX1_placeSnail zP_0 hR0 (by omega) (by omega) h8 hI) rfl dX4_setSnail_18 kX4_58 (by decide) rfl (by show _ ≤ 8; simp) (zP_r0 (zP_0)) (zm_sh_p0 (zP_0)) (by decide) rfl (fun v18 M18 q18 => ?_)
  have hex : ∃ zz : Int, v18 = some (.inl zz) ∧ ((sBarS σ lane slime < 0 ∧ zz = sBarS σ lane slime ∧ M18 = M8) ∨ (sBarS σ lane slime = 0 ∧ zz = σ 535 ∧ zRel M18 0 (sCome σ lane slime) ∧ zOff M8 M18 0)) := by
    rcases q18 with ⟨a1, a2, a3⟩ | ⟨a1, a2, a3⟩
    · exact ⟨_, a2, Or.inl ⟨a1, rfl, a3⟩⟩
    · exact ⟨_, a2, Or.inr ⟨a1, rfl, a3⟩⟩
  obtain ⟨x18, rfl, hx⟩ := hex
  try simp only [zpush]
  have hbr := sBarS_r σ lane slime
  have hR25b : zRel M18 25 σ := by
    rcases hx with ⟨_, _, e⟩ | ⟨_, _, _, e⟩
    · rw [e]; exact hR25
    · exact hR25.mv (fun a q1 q2 => e a (by omega))
  have e76 : M18 176 = M 176 := by
    rcases hx with ⟨_, _, e⟩ | ⟨_, _, _, e⟩
    · rw [e]; exact hO25 176 (by omega)
    · exact (e 176 (by omega)).trans (hO25 176 (by omega))
  refine z_callV mX4_recorded (vX4_recorded (σ := σ) (by omega) hR25b hI (by rw [e76]; exact h1) (by rw [e76]; exact h2)) rfl dX4_setSnail_21 kX4_62 (by decide) rfl (by show _ ≤ 8; simp) (by decide) (zsh175) (by decide) rfl (fun v21 M21 q21 => ?_)
  obtain ⟨rfl, hm⟩ := q21
  try simp only [zpush]
  refine z_iret dX4_setSnail_24 rfl ?_
  exact zActP.mk h2 hO25 hx (by omega) rfl hm

theorem vX4_setFrost {G : zG} {M : zM} {σ : zS} {lane row f : Int} (hlane : -2147483648 ≤ lane ∧ lane < 2147483648) (hrow : -2147483648 ≤ row ∧ row < 2147483648) (hf : -2147483648 ≤ f ∧ f < 2147483648)  (hR : zRel M 0 σ) (hB : zB σ) (hX : zX σ) (h1 : 0 ≤ M 176 1 ∧ M 176 1 ≤ 4) (h2 : 0 ≤ M 176 2 ∧ M 176 2 < 4) : zCall G yX4_setFrost YX4_setFrost [.inr (some 175), .inl lane, .inl row, .inl f] M (fun v M' => zActP M σ (sBarF σ lane row f) ((if sBarF σ lane row f = 0 then σ (6 * row + lane) else 0)) (sFz σ (6 * row + lane) f) v M') := by
  refine zEnter (by decide +kernel) rfl (Nat.le_of_ble_eq_true rfl) ?_
  have hA := hB.1
  have hI := hA.1
  have hs9 := hI.1
  unfold zIs at hs9
  have h8 := hB.2.1
  have ht0 := hB.2.2
  refine z_aload_n dX4_setFrost_0 rfl ?_
  refine z_getR (b := 25) dX4_setFrost_1 fX4_16 (by decide) (zsh175) rfl rfl ?_
  refine z_aload_n dX4_setFrost_4 rfl ?_
  refine z_getR (b := 0) dX4_setFrost_5 fX4_12 (by decide) (zsh175) rfl rfl ?_
  refine z_callV mX1_copyFrom (vX1_copyFrom zP_25 zP_0 (by decide) hR hI) rfl dX4_setFrost_8 kX4_54 (by decide) rfl (by show _ ≤ 8; simp) (zP_r0 (zP_25)) (zm_sh_p0 (zP_25)) (by decide) rfl (fun v8 M8 q8 => ?_)
  obtain ⟨rfl, hR25, hO25⟩ := q8
  try simp only [zpush]
  have hR0 := hR.mv (N := M8) (fun a q1 q2 => hO25 a (by omega))
  refine z_aload_n dX4_setFrost_11 rfl ?_
  refine z_aload_n dX4_setFrost_12 rfl ?_
  refine z_getR (b := 0) dX4_setFrost_13 fX4_12 (by decide) (zsh175) rfl rfl ?_
  refine z_iload_n dX4_setFrost_16 rfl ?_
  refine z_iload_n dX4_setFrost_17 rfl ?_
  refine z_iload_n dX4_setFrost_18 rfl ?_
  refine z_callV mX1_changeFrost (vX1_changeFrost zP_0 hR0 (by omega) (by omega) (by omega) hI) rfl dX4_setFrost_19 kX4_69 (by decide) rfl (by show _ ≤ 8; simp) (zP_r0 (zP_0)) (zm_sh_p0 (zP_0)) (by decide) rfl (fun v19 M19 q19 => ?_)
  have hex : ∃ zz : Int, v19 = some (.inl zz) ∧ ((sBarF σ lane row f < 0 ∧ zz = sBarF σ lane row f ∧ M19 = M8) ∨ (sBarF σ lane row f = 0 ∧ zz = (if sBarF σ lane row f = 0 then σ (6 * row + lane) else 0) ∧ zRel M19 0 (sFz σ (6 * row + lane) f) ∧ zOff M8 M19 0)) := by
    rcases q19 with ⟨a1, a2, a3⟩ | ⟨a1, a2, a3⟩
    · exact ⟨_, a2, Or.inl ⟨a1, rfl, a3⟩⟩
    · exact ⟨_, a2, Or.inr ⟨a1, by rw [if_pos a1], a3⟩⟩
  obtain ⟨x19, rfl, hx⟩ := hex
  try simp only [zpush]
  have hbr := sBarF_r σ lane row f
  have hfr : 0 ≤ (if sBarF σ lane row f = 0 then σ (6 * row + lane) else 0) ∧ (if sBarF σ lane row f = 0 then σ (6 * row + lane) else 0) ≤ 9 := by
    split
    · rename_i e
      have e2 := sBarF_0 e
      have e3 := hI.2.1 (6 * row + lane) (by omega) (by omega)
      unfold zIc at e3
      omega
    · decide
  have hR25b : zRel M19 25 σ := by
    rcases hx with ⟨_, _, e⟩ | ⟨_, _, _, e⟩
    · rw [e]; exact hR25
    · exact hR25.mv (fun a q1 q2 => e a (by omega))
  have e76 : M19 176 = M 176 := by
    rcases hx with ⟨_, _, e⟩ | ⟨_, _, _, e⟩
    · rw [e]; exact hO25 176 (by omega)
    · exact (e 176 (by omega)).trans (hO25 176 (by omega))
  refine z_callV mX4_recorded (vX4_recorded (σ := σ) (by omega) hR25b hI (by rw [e76]; exact h1) (by rw [e76]; exact h2)) rfl dX4_setFrost_22 kX4_62 (by decide) rfl (by show _ ≤ 8; simp) (by decide) (zsh175) (by decide) rfl (fun v22 M22 q22 => ?_)
  obtain ⟨rfl, hm⟩ := q22
  try simp only [zpush]
  refine z_iret dX4_setFrost_25 rfl ?_
  exact zActP.mk h2 hO25 hx (by omega) rfl hm

