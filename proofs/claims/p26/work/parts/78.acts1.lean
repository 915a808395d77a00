/-! ===== acts() ===== -/
/-- a text and its length -/
abbrev wTt : Type := zS × Int
def tA (x : wTt) (ch : Int) : wTt := (zu x.1 x.2 ch, x.2 + 1)
def tS0 (j : Int) (x : wTt) : wTt := if j > 0 then tA x 59 else x
def tS1 (k : Int) (x : wTt) : wTt := tA x (if k = 0 then 115 else if k = 1 then 102 else 46)
def tS2 (k z : Int) (x : wTt) : wTt := tA x (if k < 2 then 48 + z / 4 % 6 else 49 + z / 4 % 9)
def tS3 (k : Int) (x : wTt) : wTt := if k < 2 then tA x (if k = 0 then 42 else 46) else x
def tS4 (k z : Int) (x : wTt) : wTt := if k < 2 then tA x (49 + z / 16 % 9) else x
def tS5 (k z : Int) (x : wTt) : wTt := if k = 0 then tA x (48 + z / 64 % 10) else x
def tS6 (k : Int) (x : wTt) : wTt := if k = 1 then tA x 61 else x
def tS7 (k z : Int) (x : wTt) : wTt := if k = 1 then tA x (48 + z / 64 % 10) else x
def tZ (y j : Int) : Int := y / 4 / 2 ^ (6 * j).toNat
def tStep (y j : Int) (x : wTt) : wTt := tS7 (tZ y j % 3) (tZ y j) (tS6 (tZ y j % 3) (tS5 (tZ y j % 3) (tZ y j) (tS4 (tZ y j % 3) (tZ y j) (tS3 (tZ y j % 3) (tS2 (tZ y j % 3) (tZ y j) (tS1 (tZ y j % 3) (tS0 j x)))))))
def tText (y : Int) : wTt := zfor (tStep y) 0 (1 + y % 4) (fun _ => 0, 0)
/-- an act: what it answers, the object then -/
def aAct (A : wAb) (c : Int) : Int × wAb :=
  if c % 32 < 6 then (aOp A (sBarS A.1 (c / 32 % 6) (c / 32 / 8 % 100)) (A.1 535) (sCome A.1 (c / 32 % 6) (c / 32 / 8 % 100)))
  else if c % 32 = 6 then (if c / 32 % 4 > 0 ∨ A.1 535 < 1 then (0, A) else (aOp A (sBarO A.1 (c / 32 / 4 % A.1 535)) (if sBarO A.1 (c / 32 / 4 % A.1 535) = 0 then A.1 (360 + 10 * (c / 32 / 4 % A.1 535) + 1) else 0) (zu A.1 (360 + 10 * (c / 32 / 4 % A.1 535) + 3) 2)))
  else if c % 32 < 11 then (aOp A (sBarF A.1 (c / 32 % 6) (c / 32 / 8 % 20) (c / 32 / 256 % 10)) (if sBarF A.1 (c / 32 % 6) (c / 32 / 8 % 20) (c / 32 / 256 % 10) = 0 then A.1 (6 * (c / 32 / 8 % 20) + c / 32 % 6) else 0) (sFz A.1 (6 * (c / 32 / 8 % 20) + c / 32 % 6) (c / 32 / 256 % 10)))
  else if c % 32 < 13 then (aOp A (sBarSet A.1 (c / 32 % 4) (1 + c / 32 / 4 % 9)) (if sBarSet A.1 (c / 32 % 4) (1 + c / 32 / 4 % 9) = 0 then A.1 (531 + c / 32 % 4) else 0) (sDry (zu A.1 (531 + c / 32 % 4) (1 + c / 32 / 4 % 9))))
  else if c % 32 < 15 then aUndo A
  else if c % 32 = 15 then aKeep A
  else if c % 32 = 16 then aRest A
  else if c % 32 < 20 then aPerf A (tText (c / 32)).1 (tText (c / 32)).2
  else (aOp A (sBarT A.1 (1 + c / 32 % 5)) (if sBarT A.1 (1 + c / 32 % 5) = 0 then sTs (1 + c / 32 % 5) A.1 537 - A.1 537 else 0) (sTs (1 + c / 32 % 5) A.1))
section AC
variable {A : wAb} {c : Int}

theorem aAct_1 (h : 0 ≤ c % 32 ∧ c % 32 < 6) : aAct A c = (aOp A (sBarS A.1 (c / 32 % 6) (c / 32 / 8 % 100)) (A.1 535) (sCome A.1 (c / 32 % 6) (c / 32 / 8 % 100))) := by unfold aAct; rw [if_pos (by omega)]
theorem aAct_2 (h : c % 32 = 6) : aAct A c = (if c / 32 % 4 > 0 ∨ A.1 535 < 1 then (0, A) else (aOp A (sBarO A.1 (c / 32 / 4 % A.1 535)) (if sBarO A.1 (c / 32 / 4 % A.1 535) = 0 then A.1 (360 + 10 * (c / 32 / 4 % A.1 535) + 1) else 0) (zu A.1 (360 + 10 * (c / 32 / 4 % A.1 535) + 3) 2))) := by unfold aAct; rw [if_neg (by omega), if_pos (by omega)]
theorem aAct_3 (h : 7 ≤ c % 32 ∧ c % 32 < 11) : aAct A c = (aOp A (sBarF A.1 (c / 32 % 6) (c / 32 / 8 % 20) (c / 32 / 256 % 10)) (if sBarF A.1 (c / 32 % 6) (c / 32 / 8 % 20) (c / 32 / 256 % 10) = 0 then A.1 (6 * (c / 32 / 8 % 20) + c / 32 % 6) else 0) (sFz A.1 (6 * (c / 32 / 8 % 20) + c / 32 % 6) (c / 32 / 256 % 10))) := by unfold aAct; rw [if_neg (by omega), if_neg (by omega), if_pos (by omega)]
theorem aAct_4 (h : 11 ≤ c % 32 ∧ c % 32 < 13) : aAct A c = (aOp A (sBarSet A.1 (c / 32 % 4) (1 + c / 32 / 4 % 9)) (if sBarSet A.1 (c / 32 % 4) (1 + c / 32 / 4 % 9) = 0 then A.1 (531 + c / 32 % 4) else 0) (sDry (zu A.1 (531 + c / 32 % 4) (1 + c / 32 / 4 % 9)))) := by unfold aAct; rw [if_neg (by omega), if_neg (by omega), if_neg (by omega), if_pos (by omega)]
theorem aAct_5 (h : 13 ≤ c % 32 ∧ c % 32 < 15) : aAct A c = aUndo A := by unfold aAct; rw [if_neg (by omega), if_neg (by omega), if_neg (by omega), if_neg (by omega), if_pos (by omega)]
theorem aAct_6 (h : c % 32 = 15) : aAct A c = aKeep A := by unfold aAct; rw [if_neg (by omega), if_neg (by omega), if_neg (by omega), if_neg (by omega), if_neg (by omega), if_pos (by omega)]
theorem aAct_7 (h : c % 32 = 16) : aAct A c = aRest A := by unfold aAct; rw [if_neg (by omega), if_neg (by omega), if_neg (by omega), if_neg (by omega), if_neg (by omega), if_neg (by omega), if_pos (by omega)]
theorem aAct_8 (h : 17 ≤ c % 32 ∧ c % 32 < 20) : aAct A c = aPerf A (tText (c / 32)).1 (tText (c / 32)).2 := by unfold aAct; rw [if_neg (by omega), if_neg (by omega), if_neg (by omega), if_neg (by omega), if_neg (by omega), if_neg (by omega), if_neg (by omega), if_pos (by omega)]
theorem aAct_9 (h : 20 ≤ c % 32) : aAct A c = (aOp A (sBarT A.1 (1 + c / 32 % 5)) (if sBarT A.1 (1 + c / 32 % 5) = 0 then sTs (1 + c / 32 % 5) A.1 537 - A.1 537 else 0) (sTs (1 + c / 32 % 5) A.1)) := by unfold aAct; rw [if_neg (by omega), if_neg (by omega), if_neg (by omega), if_neg (by omega), if_neg (by omega), if_neg (by omega), if_neg (by omega), if_neg (by omega)]
end AC
def acQ (b : Int) (A : wAb) (c : Int) (v : Option zV) (N : zM) : Prop := v = some (.inl (aAct A c).1) ∧ zO (b + 990) N (aAct A c).2

theorem ac108 {G : zG} {b : Int} {A : wAb} {M : zM} {c : Int} (hO : zO b M A) (hc : 0 ≤ c ∧ c < 2147483648) (h : 0 ≤ c % 32 ∧ c % 32 < 6) : zW G YL_acts (acQ b A c) 108 [(2, .inl (c / 32)), (3, .inl (A.1 535)), (1, .inl c), (0, .inr (some 175))] [] M := by
  have hm := zI_m hO.1.2.1.1.1
  have h8 := hO.1.2.1.2.1
  have hle : b ≤ b + 990 := by omega
  refine z_aload_n dL_acts_108 rfl ?_
  refine z_iload_n dL_acts_109 rfl ?_
  refine z_bipush dL_acts_110 (by decide) ?_
  refine z_irem dL_acts_112 (by omega) (by decide) ?_
  refine z_iload_n dL_acts_113 rfl ?_
  refine z_bipush dL_acts_114 (by decide) ?_
  refine z_idiv dL_acts_116 (by omega) (by decide) ?_
  refine z_bipush dL_acts_117 (by decide) ?_
  refine z_irem dL_acts_119 (by omega) (by decide) ?_
  refine z_callV mX4_setSnail (a_setSnail (by omega) (by omega) hO) rfl dL_acts_120 kL_15 (by decide) rfl (by show _ ≤ 8; simp) (by decide) (zsh175) (by decide) rfl (fun v120 M120 q120 => ?_)
  obtain ⟨rfl, hO⟩ := q120
  try simp only [zpush]
  refine z_iret dL_acts_123 rfl ?_
  unfold acQ
  rw [aAct_1 (by omega)]
  exact ⟨rfl, hO.le hle⟩

theorem ac124 {G : zG} {b : Int} {A : wAb} {M : zM} {c : Int} (hO : zO b M A) (hc : 0 ≤ c ∧ c < 2147483648) (h : c % 32 = 6) : zW G YL_acts (acQ b A c) 124 [(2, .inl (c / 32)), (3, .inl (A.1 535)), (1, .inl c), (0, .inr (some 175))] [] M := by
  have hm := zI_m hO.1.2.1.1.1
  have h8 := hO.1.2.1.2.1
  have hle : b ≤ b + 990 := by omega
  refine z_iload_n dL_acts_124 rfl ?_
  refine z_iconst dL_acts_125 ?_
  refine z_irem dL_acts_126 (by omega) (by decide) ?_
  refine z_if_gt (tgt := 135) dL_acts_127 (by decide) (by omega) (fun c127 => ?_) (fun c127 => ?_)
  · refine z_iconst dL_acts_135 ?_
    refine z_goto (tgt := 148) dL_acts_136 (by decide) ?_
    refine z_iret dL_acts_148 rfl ?_
    unfold acQ
    rw [aAct_2 (by omega)]
    first | (rw [if_pos (show c / 32 % 4 > 0 ∨ A.1 535 < 1 by omega)]; exact ⟨rfl, hO.le hle⟩) | (rw [if_neg (show ¬ (c / 32 % 4 > 0 ∨ A.1 535 < 1) by omega)]; exact ⟨rfl, hO.le hle⟩)
  · refine z_iload_n dL_acts_130 rfl ?_
    refine z_iconst dL_acts_131 ?_
    refine z_icmp_ge (tgt := 139) dL_acts_132 (by decide) (by omega) (by decide) (fun c132 => ?_) (fun c132 => ?_)
    · refine z_aload_n dL_acts_139 rfl ?_
      refine z_iload_n dL_acts_140 rfl ?_
      refine z_iconst dL_acts_141 ?_
      refine z_idiv dL_acts_142 (by omega) (by decide) ?_
      refine z_iload_n dL_acts_143 rfl ?_
      refine z_irem dL_acts_144 (by omega) (by omega) ?_
      refine z_callV mX4_takeOff (a_takeOff (by have hb := Int.emod_lt_of_pos (c / 32 / 4) (show 0 < A.1 535 by omega); have hb0 := Int.emod_nonneg (c / 32 / 4) (show A.1 535 ≠ 0 by omega); omega) hO) rfl dL_acts_145 kL_19 (by decide) rfl (by show _ ≤ 8; simp) (by decide) (zsh175) (by decide) rfl (fun v145 M145 q145 => ?_)
      obtain ⟨rfl, hO⟩ := q145
      try simp only [zpush]
      refine z_iret dL_acts_148 rfl ?_
      unfold acQ
      rw [aAct_2 (by omega)]
      first | (rw [if_pos (show c / 32 % 4 > 0 ∨ A.1 535 < 1 by omega)]; exact ⟨rfl, hO.le hle⟩) | (rw [if_neg (show ¬ (c / 32 % 4 > 0 ∨ A.1 535 < 1) by omega)]; exact ⟨rfl, hO.le hle⟩)
    · refine z_iconst dL_acts_135 ?_
      refine z_goto (tgt := 148) dL_acts_136 (by decide) ?_
      refine z_iret dL_acts_148 rfl ?_
      unfold acQ
      rw [aAct_2 (by omega)]
      first | (rw [if_pos (show c / 32 % 4 > 0 ∨ A.1 535 < 1 by omega)]; exact ⟨rfl, hO.le hle⟩) | (rw [if_neg (show ¬ (c / 32 % 4 > 0 ∨ A.1 535 < 1) by omega)]; exact ⟨rfl, hO.le hle⟩)

theorem ac149 {G : zG} {b : Int} {A : wAb} {M : zM} {c : Int} (hO : zO b M A) (hc : 0 ≤ c ∧ c < 2147483648) (h : 7 ≤ c % 32 ∧ c % 32 < 11) : zW G YL_acts (acQ b A c) 149 [(2, .inl (c / 32)), (3, .inl (A.1 535)), (1, .inl c), (0, .inr (some 175))] [] M := by
  have hm := zI_m hO.1.2.1.1.1
  have h8 := hO.1.2.1.2.1
  have hle : b ≤ b + 990 := by omega
  refine z_aload_n dL_acts_149 rfl ?_
  refine z_iload_n dL_acts_150 rfl ?_
  refine z_bipush dL_acts_151 (by decide) ?_
  refine z_irem dL_acts_153 (by omega) (by omega) ?_
  refine z_iload_n dL_acts_154 rfl ?_
  refine z_bipush dL_acts_155 (by decide) ?_
  refine z_idiv dL_acts_157 (by omega) (by decide) ?_
  refine z_bipush dL_acts_158 (by decide) ?_
  refine z_irem dL_acts_160 (by omega) (by decide) ?_
  refine z_iload_n dL_acts_161 rfl ?_
  refine z_sipush dL_acts_162 (by decide) ?_
  refine z_idiv dL_acts_165 (by omega) (by decide) ?_
  refine z_bipush dL_acts_166 (by decide) ?_
  refine z_irem dL_acts_168 (by omega) (by decide) ?_
  refine z_callV mX4_setFrost (a_setFrost (by omega) (by omega) (by omega) hO) rfl dL_acts_169 kL_22 (by decide) rfl (by show _ ≤ 8; simp) (by decide) (zsh175) (by decide) rfl (fun v169 M169 q169 => ?_)
  obtain ⟨rfl, hO⟩ := q169
  try simp only [zpush]
  refine z_iret dL_acts_172 rfl ?_
  unfold acQ
  rw [aAct_3 (by omega)]
  exact ⟨rfl, hO.le hle⟩

theorem ac173 {G : zG} {b : Int} {A : wAb} {M : zM} {c : Int} (hO : zO b M A) (hc : 0 ≤ c ∧ c < 2147483648) (h : 11 ≤ c % 32 ∧ c % 32 < 13) : zW G YL_acts (acQ b A c) 173 [(2, .inl (c / 32)), (3, .inl (A.1 535)), (1, .inl c), (0, .inr (some 175))] [] M := by
  have hm := zI_m hO.1.2.1.1.1
  have h8 := hO.1.2.1.2.1
  have hle : b ≤ b + 990 := by omega
  refine z_aload_n dL_acts_173 rfl ?_
  refine z_iload_n dL_acts_174 rfl ?_
  refine z_iconst dL_acts_175 ?_
  refine z_irem dL_acts_176 (by omega) (by decide) ?_
  refine z_iconst dL_acts_177 ?_
  refine z_iload_n dL_acts_178 rfl ?_
  refine z_iconst dL_acts_179 ?_
  refine z_idiv dL_acts_180 (by omega) (by decide) ?_
  refine z_bipush dL_acts_181 (by decide) ?_
  refine z_irem dL_acts_183 (by omega) (by decide) ?_
  refine z_iadd dL_acts_184 ?_
  refine z_callV mX4_set (a_set (by omega) (by omega) hO) rfl dL_acts_185 kL_26 (by decide) rfl (by show _ ≤ 8; simp) (by decide) (zsh175) (by decide) rfl (fun v185 M185 q185 => ?_)
  obtain ⟨rfl, hO⟩ := q185
  try simp only [zpush]
  refine z_iret dL_acts_188 rfl ?_
  unfold acQ
  rw [aAct_4 (by omega)]
  exact ⟨rfl, hO.le hle⟩

theorem ac189 {G : zG} {b : Int} {A : wAb} {M : zM} {c : Int} (hO : zO b M A) (hc : 0 ≤ c ∧ c < 2147483648) (h : 13 ≤ c % 32 ∧ c % 32 < 15) : zW G YL_acts (acQ b A c) 189 [(2, .inl (c / 32)), (3, .inl (A.1 535)), (1, .inl c), (0, .inr (some 175))] [] M := by
  have hm := zI_m hO.1.2.1.1.1
  have h8 := hO.1.2.1.2.1
  have hle : b ≤ b + 990 := by omega
  refine z_aload_n dL_acts_189 rfl ?_
  refine z_callV mX4_undo (a_undo hO) rfl dL_acts_190 kL_29 (by decide) rfl (by show _ ≤ 8; simp) (by decide) (zsh175) (by decide) rfl (fun v190 M190 q190 => ?_)
  obtain ⟨rfl, hO⟩ := q190
  try simp only [zpush]
  refine z_iret dL_acts_193 rfl ?_
  unfold acQ
  rw [aAct_5 (by omega)]
  exact ⟨rfl, hO.le hle⟩

theorem ac194 {G : zG} {b : Int} {A : wAb} {M : zM} {c : Int} (hO : zO b M A) (hc : 0 ≤ c ∧ c < 2147483648) (h : c % 32 = 15) : zW G YL_acts (acQ b A c) 194 [(2, .inl (c / 32)), (3, .inl (A.1 535)), (1, .inl c), (0, .inr (some 175))] [] M := by
  have hm := zI_m hO.1.2.1.1.1
  have h8 := hO.1.2.1.2.1
  have hle : b ≤ b + 990 := by omega
  refine z_aload_n dL_acts_194 rfl ?_
  refine z_callV mX4_keep (a_keep hO) rfl dL_acts_195 kL_33 (by decide) rfl (by show _ ≤ 8; simp) (by decide) (zsh175) (by decide) rfl (fun v195 M195 q195 => ?_)
  obtain ⟨rfl, hO⟩ := q195
  try simp only [zpush]
  refine z_iret dL_acts_198 rfl ?_
  unfold acQ
  rw [aAct_6 (by omega)]
  exact ⟨rfl, hO.le hle⟩

theorem ac199 {G : zG} {b : Int} {A : wAb} {M : zM} {c : Int} (hO : zO b M A) (hc : 0 ≤ c ∧ c < 2147483648) (h : c % 32 = 16) : zW G YL_acts (acQ b A c) 199 [(2, .inl (c / 32)), (3, .inl (A.1 535)), (1, .inl c), (0, .inr (some 175))] [] M := by
  have hm := zI_m hO.1.2.1.1.1
  have h8 := hO.1.2.1.2.1
  have hle : b ≤ b + 990 := by omega
  refine z_aload_n dL_acts_199 rfl ?_
  refine z_callV mX4_restore (a_restore hO) rfl dL_acts_200 kL_36 (by decide) rfl (by show _ ≤ 8; simp) (by decide) (zsh175) (by decide) rfl (fun v200 M200 q200 => ?_)
  obtain ⟨rfl, hO⟩ := q200
  try simp only [zpush]
  refine z_iret dL_acts_203 rfl ?_
  unfold acQ
  rw [aAct_7 (by omega)]
  exact ⟨rfl, hO.le hle⟩

theorem ac478 {G : zG} {b : Int} {A : wAb} {M : zM} {c : Int} (hO : zO b M A) (hc : 0 ≤ c ∧ c < 2147483648) (h : 20 ≤ c % 32) : zW G YL_acts (acQ b A c) 478 [(2, .inl (c / 32)), (3, .inl (A.1 535)), (1, .inl c), (0, .inr (some 175))] [] M := by
  have hm := zI_m hO.1.2.1.1.1
  have h8 := hO.1.2.1.2.1
  have hle : b ≤ b + 990 := by omega
  refine z_aload_n dL_acts_478 rfl ?_
  refine z_iconst dL_acts_479 ?_
  refine z_iload_n dL_acts_480 rfl ?_
  refine z_iconst dL_acts_481 ?_
  refine z_irem dL_acts_482 (by omega) (by decide) ?_
  refine z_iadd dL_acts_483 ?_
  refine z_callV mX4_pass (a_pass (by omega) hO) rfl dL_acts_484 kL_49 (by decide) rfl (by show _ ≤ 8; simp) (by decide) (zsh175) (by decide) rfl (fun v484 M484 q484 => ?_)
  obtain ⟨rfl, hO⟩ := q484
  try simp only [zpush]
  refine z_iret dL_acts_487 rfl ?_
  unfold acQ
  rw [aAct_9 (by omega)]
  refine ⟨rfl, hO.le ?_⟩
  split <;> omega

theorem tZ_r {y j : Int} (hy : 0 ≤ y ∧ y < 2147483648) : 0 ≤ tZ y j ∧ tZ y j < 2147483648 := by
  unfold tZ
  have h2 : (0 : Int) < 2 ^ (6 * j).toNat := Int.pow_pos (by decide)
  have h3 : y / 4 / 2 ^ (6 * j).toNat ≤ y / 4 := Int.ediv_le_self _ (by omega)
  have h4 : 0 ≤ y / 4 / 2 ^ (6 * j).toNat := Int.ediv_nonneg (by omega) (by omega)
  omega

theorem acZ {G : zG} {Q : Option zV → zM → Prop} {b : Int} {A : wAb} {M : zM} {c j e : Int} (hO : zO b M A) (hc : 0 ≤ c ∧ c < 2147483648) (hj : 0 ≤ j ∧ j ≤ 3) (kk : ∀ N : zM, zO b N A → zW G YL_acts Q 240 [(7, .inl (tZ (c / 32) j % 3)), (6, .inl (tZ (c / 32) j)), (5, .inl j), (4, .inl e), (2, .inl (c / 32)), (3, .inl (A.1 535)), (1, .inl c), (0, .inr (some 175))] [] N) : zW G YL_acts Q 223 [(5, .inl j), (4, .inl e), (2, .inl (c / 32)), (3, .inl (A.1 535)), (1, .inl c), (0, .inr (some 175))] [] M := by
  refine z_iload_n dL_acts_223 rfl ?_
  refine z_iconst dL_acts_224 ?_
  refine z_idiv dL_acts_225 (by omega) (by decide) ?_
  refine z_bipush dL_acts_226 (by decide) ?_
  refine z_iload dL_acts_228 rfl ?_
  refine z_imul dL_acts_230 ?_
  refine z_ishr dL_acts_231 (by omega) (by omega) ?_
  have hz : 0 ≤ tZ (c / 32) j ∧ tZ (c / 32) j < 2147483648 := tZ_r (by omega)
  have ez : c / 32 / 4 / 2 ^ (6 * j).toNat = tZ (c / 32) j := rfl
  rw [ez]
  refine z_istore dL_acts_232 (by decide) ?_
  refine z_iload dL_acts_234 rfl ?_
  refine z_iconst dL_acts_236 ?_
  refine z_irem dL_acts_237 (by omega) (by decide) ?_
  refine z_istore dL_acts_238 (by decide) ?_
  exact zsub' (kk _ hO) ⟨rfl, rfl, rfl, rfl, rfl, rfl, rfl, rfl, trivial⟩

theorem acT0 {G : zG} {Q : Option zV → zM → Prop} {b : Int} {A : wAb} {M : zM} {c j e : Int} {x : wTt} (hO : zO b M A) (hc : 0 ≤ c ∧ c < 2147483648) (hj : 0 ≤ j ∧ j ≤ 3) (ht : wTx M x.1 x.2) (hx : 0 ≤ x.2 ∧ x.2 < 59) (he : 0 ≤ e ∧ e ≤ 60)  (kk : ∀ N : zM, zO b N A → ∀ e2 : Int, (0 ≤ e2 ∧ e2 ≤ 60) → wTx N (tS0 j x).1 (tS0 j x).2 → zW G YL_acts Q 257 [(7, .inl (tZ (c / 32) j % 3)), (6, .inl (tZ (c / 32) j)), (5, .inl j), (4, .inl e2), (2, .inl (c / 32)), (3, .inl (A.1 535)), (1, .inl c), (0, .inr (some 175))] [] N) : zW G YL_acts Q 240 [(7, .inl (tZ (c / 32) j % 3)), (6, .inl (tZ (c / 32) j)), (5, .inl j), (4, .inl e), (2, .inl (c / 32)), (3, .inl (A.1 535)), (1, .inl c), (0, .inr (some 175))] [] M := by
  have hz : 0 ≤ tZ (c / 32) j ∧ tZ (c / 32) j < 2147483648 := tZ_r (by omega)
  refine z_iload dL_acts_240 rfl ?_
  refine z_if_le (tgt := 254) dL_acts_242 (by decide) (by omega) (fun c242 => ?_) (fun c242 => ?_)
  · refine z_iconst dL_acts_254 ?_
    refine z_istore dL_acts_255 (by decide) ?_
    first | exact zsub' (kk _ hO _ (by omega) (by unfold tS0; rw [if_pos (by omega)]; exact ht)) ⟨rfl, rfl, rfl, rfl, rfl, rfl, rfl, rfl, trivial⟩ | exact zsub' (kk _ hO _ (by omega) (by unfold tS0; rw [if_neg (by omega)]; exact ht)) ⟨rfl, rfl, rfl, rfl, rfl, rfl, rfl, rfl, trivial⟩ | exact zsub' (kk _ hO _ (by omega) (by unfold tS0; rw [if_neg (by omega), if_pos (by omega)]; exact ht)) ⟨rfl, rfl, rfl, rfl, rfl, rfl, rfl, rfl, trivial⟩ | exact zsub' (kk _ hO _ (by omega) (by unfold tS0; rw [if_neg (by omega), if_neg (by omega)]; exact ht)) ⟨rfl, rfl, rfl, rfl, rfl, rfl, rfl, rfl, trivial⟩ | exact zsub' (kk _ hO _ (by omega) (by unfold tS0; rw [if_pos (show _ < (2 : Int) by omega), if_pos (by omega)]; exact ht)) ⟨rfl, rfl, rfl, rfl, rfl, rfl, rfl, rfl, trivial⟩ | exact zsub' (kk _ hO _ (by omega) (by unfold tS0; rw [if_pos (show _ < (2 : Int) by omega), if_neg (by omega)]; exact ht)) ⟨rfl, rfl, rfl, rfl, rfl, rfl, rfl, rfl, trivial⟩
  · refine z_aload_n dL_acts_245 rfl ?_
    refine z_bipush dL_acts_246 (by decide) ?_
    refine z_callV mX4_type (a_type (by omega) (by omega) ht hO) rfl dL_acts_248 kL_42 (by decide) rfl (by show _ ≤ 8; simp) (by decide) (zsh175) (by decide) rfl (fun v248 M248 q248 => ?_)
    obtain ⟨rfl, hO, ht⟩ := q248
    try simp only [zpush]
    refine z_goto (tgt := 255) dL_acts_251 (by decide) ?_
    refine z_istore dL_acts_255 (by decide) ?_
    first | exact zsub' (kk _ hO _ (by omega) (by unfold tS0; rw [if_pos (by omega)]; exact ht)) ⟨rfl, rfl, rfl, rfl, rfl, rfl, rfl, rfl, trivial⟩ | exact zsub' (kk _ hO _ (by omega) (by unfold tS0; rw [if_neg (by omega)]; exact ht)) ⟨rfl, rfl, rfl, rfl, rfl, rfl, rfl, rfl, trivial⟩ | exact zsub' (kk _ hO _ (by omega) (by unfold tS0; rw [if_neg (by omega), if_pos (by omega)]; exact ht)) ⟨rfl, rfl, rfl, rfl, rfl, rfl, rfl, rfl, trivial⟩ | exact zsub' (kk _ hO _ (by omega) (by unfold tS0; rw [if_neg (by omega), if_neg (by omega)]; exact ht)) ⟨rfl, rfl, rfl, rfl, rfl, rfl, rfl, rfl, trivial⟩ | exact zsub' (kk _ hO _ (by omega) (by unfold tS0; rw [if_pos (show _ < (2 : Int) by omega), if_pos (by omega)]; exact ht)) ⟨rfl, rfl, rfl, rfl, rfl, rfl, rfl, rfl, trivial⟩ | exact zsub' (kk _ hO _ (by omega) (by unfold tS0; rw [if_pos (show _ < (2 : Int) by omega), if_neg (by omega)]; exact ht)) ⟨rfl, rfl, rfl, rfl, rfl, rfl, rfl, rfl, trivial⟩

theorem acT1 {G : zG} {Q : Option zV → zM → Prop} {b : Int} {A : wAb} {M : zM} {c j e : Int} {x : wTt} (hO : zO b M A) (hc : 0 ≤ c ∧ c < 2147483648) (hj : 0 ≤ j ∧ j ≤ 3) (ht : wTx M x.1 x.2) (hx : 0 ≤ x.2 ∧ x.2 < 59) (he : 0 ≤ e ∧ e ≤ 60)  (kk : ∀ N : zM, zO b N A → ∀ e2 : Int, (0 ≤ e2 ∧ e2 ≤ 60) → 1 ≤ e2 → wTx N (tS1 (tZ (c / 32) j % 3) x).1 (tS1 (tZ (c / 32) j % 3) x).2 → zW G YL_acts Q 286 [(7, .inl (tZ (c / 32) j % 3)), (6, .inl (tZ (c / 32) j)), (5, .inl j), (4, .inl e2), (2, .inl (c / 32)), (3, .inl (A.1 535)), (1, .inl c), (0, .inr (some 175))] [] N) : zW G YL_acts Q 257 [(7, .inl (tZ (c / 32) j % 3)), (6, .inl (tZ (c / 32) j)), (5, .inl j), (4, .inl e), (2, .inl (c / 32)), (3, .inl (A.1 535)), (1, .inl c), (0, .inr (some 175))] [] M := by
  have hz : 0 ≤ tZ (c / 32) j ∧ tZ (c / 32) j < 2147483648 := tZ_r (by omega)
  refine z_aload_n dL_acts_257 rfl ?_
  refine z_iload dL_acts_258 rfl ?_
  refine z_if_ne (tgt := 268) dL_acts_260 (by decide) (by omega) (fun c260 => ?_) (fun c260 => ?_)
  · refine z_iload dL_acts_268 rfl ?_
    refine z_iconst dL_acts_270 ?_
    refine z_icmp_ne (tgt := 279) dL_acts_271 (by decide) (by omega) (by decide) (fun c271 => ?_) (fun c271 => ?_)
    · refine z_bipush dL_acts_279 (by decide) ?_
      refine z_callV mX4_type (a_type (by omega) (by omega) ht hO) rfl dL_acts_281 kL_42 (by decide) rfl (by show _ ≤ 8; simp) (by decide) (zsh175) (by decide) rfl (fun v281 M281 q281 => ?_)
      obtain ⟨rfl, hO, ht⟩ := q281
      try simp only [zpush]
      refine z_istore dL_acts_284 (by decide) ?_
      first | exact zsub' (kk _ hO _ (by omega) (by omega) (by unfold tS1; rw [if_pos (by omega)]; exact ht)) ⟨rfl, rfl, rfl, rfl, rfl, rfl, rfl, rfl, trivial⟩ | exact zsub' (kk _ hO _ (by omega) (by omega) (by unfold tS1; rw [if_neg (by omega)]; exact ht)) ⟨rfl, rfl, rfl, rfl, rfl, rfl, rfl, rfl, trivial⟩ | exact zsub' (kk _ hO _ (by omega) (by omega) (by unfold tS1; rw [if_neg (by omega), if_pos (by omega)]; exact ht)) ⟨rfl, rfl, rfl, rfl, rfl, rfl, rfl, rfl, trivial⟩ | exact zsub' (kk _ hO _ (by omega) (by omega) (by unfold tS1; rw [if_neg (by omega), if_neg (by omega)]; exact ht)) ⟨rfl, rfl, rfl, rfl, rfl, rfl, rfl, rfl, trivial⟩ | exact zsub' (kk _ hO _ (by omega) (by omega) (by unfold tS1; rw [if_pos (show _ < (2 : Int) by omega), if_pos (by omega)]; exact ht)) ⟨rfl, rfl, rfl, rfl, rfl, rfl, rfl, rfl, trivial⟩ | exact zsub' (kk _ hO _ (by omega) (by omega) (by unfold tS1; rw [if_pos (show _ < (2 : Int) by omega), if_neg (by omega)]; exact ht)) ⟨rfl, rfl, rfl, rfl, rfl, rfl, rfl, rfl, trivial⟩
    · refine z_bipush dL_acts_274 (by decide) ?_
      refine z_goto (tgt := 281) dL_acts_276 (by decide) ?_
      refine z_callV mX4_type (a_type (by omega) (by omega) ht hO) rfl dL_acts_281 kL_42 (by decide) rfl (by show _ ≤ 8; simp) (by decide) (zsh175) (by decide) rfl (fun v281 M281 q281 => ?_)
      obtain ⟨rfl, hO, ht⟩ := q281
      try simp only [zpush]
      refine z_istore dL_acts_284 (by decide) ?_
      first | exact zsub' (kk _ hO _ (by omega) (by omega) (by unfold tS1; rw [if_pos (by omega)]; exact ht)) ⟨rfl, rfl, rfl, rfl, rfl, rfl, rfl, rfl, trivial⟩ | exact zsub' (kk _ hO _ (by omega) (by omega) (by unfold tS1; rw [if_neg (by omega)]; exact ht)) ⟨rfl, rfl, rfl, rfl, rfl, rfl, rfl, rfl, trivial⟩ | exact zsub' (kk _ hO _ (by omega) (by omega) (by unfold tS1; rw [if_neg (by omega), if_pos (by omega)]; exact ht)) ⟨rfl, rfl, rfl, rfl, rfl, rfl, rfl, rfl, trivial⟩ | exact zsub' (kk _ hO _ (by omega) (by omega) (by unfold tS1; rw [if_neg (by omega), if_neg (by omega)]; exact ht)) ⟨rfl, rfl, rfl, rfl, rfl, rfl, rfl, rfl, trivial⟩ | exact zsub' (kk _ hO _ (by omega) (by omega) (by unfold tS1; rw [if_pos (show _ < (2 : Int) by omega), if_pos (by omega)]; exact ht)) ⟨rfl, rfl, rfl, rfl, rfl, rfl, rfl, rfl, trivial⟩ | exact zsub' (kk _ hO _ (by omega) (by omega) (by unfold tS1; rw [if_pos (show _ < (2 : Int) by omega), if_neg (by omega)]; exact ht)) ⟨rfl, rfl, rfl, rfl, rfl, rfl, rfl, rfl, trivial⟩
  · refine z_bipush dL_acts_263 (by decide) ?_
    refine z_goto (tgt := 281) dL_acts_265 (by decide) ?_
    refine z_callV mX4_type (a_type (by omega) (by omega) ht hO) rfl dL_acts_281 kL_42 (by decide) rfl (by show _ ≤ 8; simp) (by decide) (zsh175) (by decide) rfl (fun v281 M281 q281 => ?_)
    obtain ⟨rfl, hO, ht⟩ := q281
    try simp only [zpush]
    refine z_istore dL_acts_284 (by decide) ?_
    first | exact zsub' (kk _ hO _ (by omega) (by omega) (by unfold tS1; rw [if_pos (by omega)]; exact ht)) ⟨rfl, rfl, rfl, rfl, rfl, rfl, rfl, rfl, trivial⟩ | exact zsub' (kk _ hO _ (by omega) (by omega) (by unfold tS1; rw [if_neg (by omega)]; exact ht)) ⟨rfl, rfl, rfl, rfl, rfl, rfl, rfl, rfl, trivial⟩ | exact zsub' (kk _ hO _ (by omega) (by omega) (by unfold tS1; rw [if_neg (by omega), if_pos (by omega)]; exact ht)) ⟨rfl, rfl, rfl, rfl, rfl, rfl, rfl, rfl, trivial⟩ | exact zsub' (kk _ hO _ (by omega) (by omega) (by unfold tS1; rw [if_neg (by omega), if_neg (by omega)]; exact ht)) ⟨rfl, rfl, rfl, rfl, rfl, rfl, rfl, rfl, trivial⟩ | exact zsub' (kk _ hO _ (by omega) (by omega) (by unfold tS1; rw [if_pos (show _ < (2 : Int) by omega), if_pos (by omega)]; exact ht)) ⟨rfl, rfl, rfl, rfl, rfl, rfl, rfl, rfl, trivial⟩ | exact zsub' (kk _ hO _ (by omega) (by omega) (by unfold tS1; rw [if_pos (show _ < (2 : Int) by omega), if_neg (by omega)]; exact ht)) ⟨rfl, rfl, rfl, rfl, rfl, rfl, rfl, rfl, trivial⟩

theorem acT2 {G : zG} {Q : Option zV → zM → Prop} {b : Int} {A : wAb} {M : zM} {c j e : Int} {x : wTt} (hO : zO b M A) (hc : 0 ≤ c ∧ c < 2147483648) (hj : 0 ≤ j ∧ j ≤ 3) (ht : wTx M x.1 x.2) (hx : 0 ≤ x.2 ∧ x.2 < 59) (he : 0 ≤ e ∧ e ≤ 60)  (kk : ∀ N : zM, zO b N A → ∀ e2 : Int, (0 ≤ e2 ∧ e2 ≤ 60) → 1 ≤ e2 → wTx N (tS2 (tZ (c / 32) j % 3) (tZ (c / 32) j) x).1 (tS2 (tZ (c / 32) j % 3) (tZ (c / 32) j) x).2 → zW G YL_acts Q 322 [(7, .inl (tZ (c / 32) j % 3)), (6, .inl (tZ (c / 32) j)), (5, .inl j), (4, .inl e2), (2, .inl (c / 32)), (3, .inl (A.1 535)), (1, .inl c), (0, .inr (some 175))] [] N) : zW G YL_acts Q 286 [(7, .inl (tZ (c / 32) j % 3)), (6, .inl (tZ (c / 32) j)), (5, .inl j), (4, .inl e), (2, .inl (c / 32)), (3, .inl (A.1 535)), (1, .inl c), (0, .inr (some 175))] [] M := by
  have hz : 0 ≤ tZ (c / 32) j ∧ tZ (c / 32) j < 2147483648 := tZ_r (by omega)
  refine z_aload_n dL_acts_286 rfl ?_
  refine z_iload dL_acts_287 rfl ?_
  refine z_iconst dL_acts_289 ?_
  refine z_icmp_ge (tgt := 306) dL_acts_290 (by decide) (by omega) (by decide) (fun c290 => ?_) (fun c290 => ?_)
  · refine z_bipush dL_acts_306 (by decide) ?_
    refine z_iload dL_acts_308 rfl ?_
    refine z_iconst dL_acts_310 ?_
    refine z_idiv dL_acts_311 (by omega) (by decide) ?_
    refine z_bipush dL_acts_312 (by decide) ?_
    refine z_irem dL_acts_314 (by omega) (by decide) ?_
    refine z_iadd dL_acts_315 ?_
    refine z_i2c dL_acts_316 (by omega) ?_
    refine z_callV mX4_type (a_type (by omega) (by omega) ht hO) rfl dL_acts_317 kL_42 (by decide) rfl (by show _ ≤ 8; simp) (by decide) (zsh175) (by decide) rfl (fun v317 M317 q317 => ?_)
    obtain ⟨rfl, hO, ht⟩ := q317
    try simp only [zpush]
    refine z_istore dL_acts_320 (by decide) ?_
    first | exact zsub' (kk _ hO _ (by omega) (by omega) (by unfold tS2; rw [if_pos (by omega)]; exact ht)) ⟨rfl, rfl, rfl, rfl, rfl, rfl, rfl, rfl, trivial⟩ | exact zsub' (kk _ hO _ (by omega) (by omega) (by unfold tS2; rw [if_neg (by omega)]; exact ht)) ⟨rfl, rfl, rfl, rfl, rfl, rfl, rfl, rfl, trivial⟩ | exact zsub' (kk _ hO _ (by omega) (by omega) (by unfold tS2; rw [if_neg (by omega), if_pos (by omega)]; exact ht)) ⟨rfl, rfl, rfl, rfl, rfl, rfl, rfl, rfl, trivial⟩ | exact zsub' (kk _ hO _ (by omega) (by omega) (by unfold tS2; rw [if_neg (by omega), if_neg (by omega)]; exact ht)) ⟨rfl, rfl, rfl, rfl, rfl, rfl, rfl, rfl, trivial⟩ | exact zsub' (kk _ hO _ (by omega) (by omega) (by unfold tS2; rw [if_pos (show _ < (2 : Int) by omega), if_pos (by omega)]; exact ht)) ⟨rfl, rfl, rfl, rfl, rfl, rfl, rfl, rfl, trivial⟩ | exact zsub' (kk _ hO _ (by omega) (by omega) (by unfold tS2; rw [if_pos (show _ < (2 : Int) by omega), if_neg (by omega)]; exact ht)) ⟨rfl, rfl, rfl, rfl, rfl, rfl, rfl, rfl, trivial⟩
  · refine z_bipush dL_acts_293 (by decide) ?_
    refine z_iload dL_acts_295 rfl ?_
    refine z_iconst dL_acts_297 ?_
    refine z_idiv dL_acts_298 (by omega) (by decide) ?_
    refine z_bipush dL_acts_299 (by decide) ?_
    refine z_irem dL_acts_301 (by omega) (by decide) ?_
    refine z_iadd dL_acts_302 ?_
    refine z_goto (tgt := 316) dL_acts_303 (by decide) ?_
    refine z_i2c dL_acts_316 (by omega) ?_
    refine z_callV mX4_type (a_type (by omega) (by omega) ht hO) rfl dL_acts_317 kL_42 (by decide) rfl (by show _ ≤ 8; simp) (by decide) (zsh175) (by decide) rfl (fun v317 M317 q317 => ?_)
    obtain ⟨rfl, hO, ht⟩ := q317
    try simp only [zpush]
    refine z_istore dL_acts_320 (by decide) ?_
    first | exact zsub' (kk _ hO _ (by omega) (by omega) (by unfold tS2; rw [if_pos (by omega)]; exact ht)) ⟨rfl, rfl, rfl, rfl, rfl, rfl, rfl, rfl, trivial⟩ | exact zsub' (kk _ hO _ (by omega) (by omega) (by unfold tS2; rw [if_neg (by omega)]; exact ht)) ⟨rfl, rfl, rfl, rfl, rfl, rfl, rfl, rfl, trivial⟩ | exact zsub' (kk _ hO _ (by omega) (by omega) (by unfold tS2; rw [if_neg (by omega), if_pos (by omega)]; exact ht)) ⟨rfl, rfl, rfl, rfl, rfl, rfl, rfl, rfl, trivial⟩ | exact zsub' (kk _ hO _ (by omega) (by omega) (by unfold tS2; rw [if_neg (by omega), if_neg (by omega)]; exact ht)) ⟨rfl, rfl, rfl, rfl, rfl, rfl, rfl, rfl, trivial⟩ | exact zsub' (kk _ hO _ (by omega) (by omega) (by unfold tS2; rw [if_pos (show _ < (2 : Int) by omega), if_pos (by omega)]; exact ht)) ⟨rfl, rfl, rfl, rfl, rfl, rfl, rfl, rfl, trivial⟩ | exact zsub' (kk _ hO _ (by omega) (by omega) (by unfold tS2; rw [if_pos (show _ < (2 : Int) by omega), if_neg (by omega)]; exact ht)) ⟨rfl, rfl, rfl, rfl, rfl, rfl, rfl, rfl, trivial⟩

theorem acT3 {G : zG} {Q : Option zV → zM → Prop} {b : Int} {A : wAb} {M : zM} {c j e : Int} {x : wTt} (hO : zO b M A) (hc : 0 ≤ c ∧ c < 2147483648) (hj : 0 ≤ j ∧ j ≤ 3) (ht : wTx M x.1 x.2) (hx : 0 ≤ x.2 ∧ x.2 < 59) (he : 0 ≤ e ∧ e ≤ 60) (he1 : 1 ≤ e) (kk : ∀ N : zM, zO b N A → ∀ e2 : Int, (0 ≤ e2 ∧ e2 ≤ 60) → 1 ≤ e2 → wTx N (tS3 (tZ (c / 32) j % 3) x).1 (tS3 (tZ (c / 32) j % 3) x).2 → zW G YL_acts Q 351 [(7, .inl (tZ (c / 32) j % 3)), (6, .inl (tZ (c / 32) j)), (5, .inl j), (4, .inl e2), (2, .inl (c / 32)), (3, .inl (A.1 535)), (1, .inl c), (0, .inr (some 175))] [] N) : zW G YL_acts Q 322 [(7, .inl (tZ (c / 32) j % 3)), (6, .inl (tZ (c / 32) j)), (5, .inl j), (4, .inl e), (2, .inl (c / 32)), (3, .inl (A.1 535)), (1, .inl c), (0, .inr (some 175))] [] M := by
  have hz : 0 ≤ tZ (c / 32) j ∧ tZ (c / 32) j < 2147483648 := tZ_r (by omega)
  refine z_iload dL_acts_322 rfl ?_
  refine z_iconst dL_acts_324 ?_
  refine z_icmp_ge (tgt := 347) dL_acts_325 (by decide) (by omega) (by decide) (fun c325 => ?_) (fun c325 => ?_)
  · refine z_iload dL_acts_347 rfl ?_
    refine z_istore dL_acts_349 (by decide) ?_
    first | exact zsub' (kk _ hO _ (by omega) (by omega) (by unfold tS3; rw [if_pos (by omega)]; exact ht)) ⟨rfl, rfl, rfl, rfl, rfl, rfl, rfl, rfl, trivial⟩ | exact zsub' (kk _ hO _ (by omega) (by omega) (by unfold tS3; rw [if_neg (by omega)]; exact ht)) ⟨rfl, rfl, rfl, rfl, rfl, rfl, rfl, rfl, trivial⟩ | exact zsub' (kk _ hO _ (by omega) (by omega) (by unfold tS3; rw [if_neg (by omega), if_pos (by omega)]; exact ht)) ⟨rfl, rfl, rfl, rfl, rfl, rfl, rfl, rfl, trivial⟩ | exact zsub' (kk _ hO _ (by omega) (by omega) (by unfold tS3; rw [if_neg (by omega), if_neg (by omega)]; exact ht)) ⟨rfl, rfl, rfl, rfl, rfl, rfl, rfl, rfl, trivial⟩ | exact zsub' (kk _ hO _ (by omega) (by omega) (by unfold tS3; rw [if_pos (show _ < (2 : Int) by omega), if_pos (by omega)]; exact ht)) ⟨rfl, rfl, rfl, rfl, rfl, rfl, rfl, rfl, trivial⟩ | exact zsub' (kk _ hO _ (by omega) (by omega) (by unfold tS3; rw [if_pos (show _ < (2 : Int) by omega), if_neg (by omega)]; exact ht)) ⟨rfl, rfl, rfl, rfl, rfl, rfl, rfl, rfl, trivial⟩
  · refine z_aload_n dL_acts_328 rfl ?_
    refine z_iload dL_acts_329 rfl ?_
    refine z_if_ne (tgt := 339) dL_acts_331 (by decide) (by omega) (fun c331 => ?_) (fun c331 => ?_)
    · refine z_bipush dL_acts_339 (by decide) ?_
      refine z_callV mX4_type (a_type (by omega) (by omega) ht hO) rfl dL_acts_341 kL_42 (by decide) rfl (by show _ ≤ 8; simp) (by decide) (zsh175) (by decide) rfl (fun v341 M341 q341 => ?_)
      obtain ⟨rfl, hO, ht⟩ := q341
      try simp only [zpush]
      refine z_goto (tgt := 349) dL_acts_344 (by decide) ?_
      refine z_istore dL_acts_349 (by decide) ?_
      first | exact zsub' (kk _ hO _ (by omega) (by omega) (by unfold tS3; rw [if_pos (by omega)]; exact ht)) ⟨rfl, rfl, rfl, rfl, rfl, rfl, rfl, rfl, trivial⟩ | exact zsub' (kk _ hO _ (by omega) (by omega) (by unfold tS3; rw [if_neg (by omega)]; exact ht)) ⟨rfl, rfl, rfl, rfl, rfl, rfl, rfl, rfl, trivial⟩ | exact zsub' (kk _ hO _ (by omega) (by omega) (by unfold tS3; rw [if_neg (by omega), if_pos (by omega)]; exact ht)) ⟨rfl, rfl, rfl, rfl, rfl, rfl, rfl, rfl, trivial⟩ | exact zsub' (kk _ hO _ (by omega) (by omega) (by unfold tS3; rw [if_neg (by omega), if_neg (by omega)]; exact ht)) ⟨rfl, rfl, rfl, rfl, rfl, rfl, rfl, rfl, trivial⟩ | exact zsub' (kk _ hO _ (by omega) (by omega) (by unfold tS3; rw [if_pos (show _ < (2 : Int) by omega), if_pos (by omega)]; exact ht)) ⟨rfl, rfl, rfl, rfl, rfl, rfl, rfl, rfl, trivial⟩ | exact zsub' (kk _ hO _ (by omega) (by omega) (by unfold tS3; rw [if_pos (show _ < (2 : Int) by omega), if_neg (by omega)]; exact ht)) ⟨rfl, rfl, rfl, rfl, rfl, rfl, rfl, rfl, trivial⟩
    · refine z_bipush dL_acts_334 (by decide) ?_
      refine z_goto (tgt := 341) dL_acts_336 (by decide) ?_
      refine z_callV mX4_type (a_type (by omega) (by omega) ht hO) rfl dL_acts_341 kL_42 (by decide) rfl (by show _ ≤ 8; simp) (by decide) (zsh175) (by decide) rfl (fun v341 M341 q341 => ?_)
      obtain ⟨rfl, hO, ht⟩ := q341
      try simp only [zpush]
      refine z_goto (tgt := 349) dL_acts_344 (by decide) ?_
      refine z_istore dL_acts_349 (by decide) ?_
      first | exact zsub' (kk _ hO _ (by omega) (by omega) (by unfold tS3; rw [if_pos (by omega)]; exact ht)) ⟨rfl, rfl, rfl, rfl, rfl, rfl, rfl, rfl, trivial⟩ | exact zsub' (kk _ hO _ (by omega) (by omega) (by unfold tS3; rw [if_neg (by omega)]; exact ht)) ⟨rfl, rfl, rfl, rfl, rfl, rfl, rfl, rfl, trivial⟩ | exact zsub' (kk _ hO _ (by omega) (by omega) (by unfold tS3; rw [if_neg (by omega), if_pos (by omega)]; exact ht)) ⟨rfl, rfl, rfl, rfl, rfl, rfl, rfl, rfl, trivial⟩ | exact zsub' (kk _ hO _ (by omega) (by omega) (by unfold tS3; rw [if_neg (by omega), if_neg (by omega)]; exact ht)) ⟨rfl, rfl, rfl, rfl, rfl, rfl, rfl, rfl, trivial⟩ | exact zsub' (kk _ hO _ (by omega) (by omega) (by unfold tS3; rw [if_pos (show _ < (2 : Int) by omega), if_pos (by omega)]; exact ht)) ⟨rfl, rfl, rfl, rfl, rfl, rfl, rfl, rfl, trivial⟩ | exact zsub' (kk _ hO _ (by omega) (by omega) (by unfold tS3; rw [if_pos (show _ < (2 : Int) by omega), if_neg (by omega)]; exact ht)) ⟨rfl, rfl, rfl, rfl, rfl, rfl, rfl, rfl, trivial⟩

theorem acT4 {G : zG} {Q : Option zV → zM → Prop} {b : Int} {A : wAb} {M : zM} {c j e : Int} {x : wTt} (hO : zO b M A) (hc : 0 ≤ c ∧ c < 2147483648) (hj : 0 ≤ j ∧ j ≤ 3) (ht : wTx M x.1 x.2) (hx : 0 ≤ x.2 ∧ x.2 < 59) (he : 0 ≤ e ∧ e ≤ 60) (he1 : 1 ≤ e) (kk : ∀ N : zM, zO b N A → ∀ e2 : Int, (0 ≤ e2 ∧ e2 ≤ 60) → 1 ≤ e2 → wTx N (tS4 (tZ (c / 32) j % 3) (tZ (c / 32) j) x).1 (tS4 (tZ (c / 32) j % 3) (tZ (c / 32) j) x).2 → zW G YL_acts Q 380 [(7, .inl (tZ (c / 32) j % 3)), (6, .inl (tZ (c / 32) j)), (5, .inl j), (4, .inl e2), (2, .inl (c / 32)), (3, .inl (A.1 535)), (1, .inl c), (0, .inr (some 175))] [] N) : zW G YL_acts Q 351 [(7, .inl (tZ (c / 32) j % 3)), (6, .inl (tZ (c / 32) j)), (5, .inl j), (4, .inl e), (2, .inl (c / 32)), (3, .inl (A.1 535)), (1, .inl c), (0, .inr (some 175))] [] M := by
  have hz : 0 ≤ tZ (c / 32) j ∧ tZ (c / 32) j < 2147483648 := tZ_r (by omega)
  refine z_iload dL_acts_351 rfl ?_
  refine z_iconst dL_acts_353 ?_
  refine z_icmp_ge (tgt := 376) dL_acts_354 (by decide) (by omega) (by decide) (fun c354 => ?_) (fun c354 => ?_)
  · refine z_iload dL_acts_376 rfl ?_
    refine z_istore dL_acts_378 (by decide) ?_
    first | exact zsub' (kk _ hO _ (by omega) (by omega) (by unfold tS4; rw [if_pos (by omega)]; exact ht)) ⟨rfl, rfl, rfl, rfl, rfl, rfl, rfl, rfl, trivial⟩ | exact zsub' (kk _ hO _ (by omega) (by omega) (by unfold tS4; rw [if_neg (by omega)]; exact ht)) ⟨rfl, rfl, rfl, rfl, rfl, rfl, rfl, rfl, trivial⟩ | exact zsub' (kk _ hO _ (by omega) (by omega) (by unfold tS4; rw [if_neg (by omega), if_pos (by omega)]; exact ht)) ⟨rfl, rfl, rfl, rfl, rfl, rfl, rfl, rfl, trivial⟩ | exact zsub' (kk _ hO _ (by omega) (by omega) (by unfold tS4; rw [if_neg (by omega), if_neg (by omega)]; exact ht)) ⟨rfl, rfl, rfl, rfl, rfl, rfl, rfl, rfl, trivial⟩ | exact zsub' (kk _ hO _ (by omega) (by omega) (by unfold tS4; rw [if_pos (show _ < (2 : Int) by omega), if_pos (by omega)]; exact ht)) ⟨rfl, rfl, rfl, rfl, rfl, rfl, rfl, rfl, trivial⟩ | exact zsub' (kk _ hO _ (by omega) (by omega) (by unfold tS4; rw [if_pos (show _ < (2 : Int) by omega), if_neg (by omega)]; exact ht)) ⟨rfl, rfl, rfl, rfl, rfl, rfl, rfl, rfl, trivial⟩
  · refine z_aload_n dL_acts_357 rfl ?_
    refine z_bipush dL_acts_358 (by decide) ?_
    refine z_iload dL_acts_360 rfl ?_
    refine z_bipush dL_acts_362 (by decide) ?_
    refine z_idiv dL_acts_364 (by omega) (by decide) ?_
    refine z_bipush dL_acts_365 (by decide) ?_
    refine z_irem dL_acts_367 (by omega) (by decide) ?_
    refine z_iadd dL_acts_368 ?_
    refine z_i2c dL_acts_369 (by omega) ?_
    refine z_callV mX4_type (a_type (by omega) (by omega) ht hO) rfl dL_acts_370 kL_42 (by decide) rfl (by show _ ≤ 8; simp) (by decide) (zsh175) (by decide) rfl (fun v370 M370 q370 => ?_)
    obtain ⟨rfl, hO, ht⟩ := q370
    try simp only [zpush]
    refine z_goto (tgt := 378) dL_acts_373 (by decide) ?_
    refine z_istore dL_acts_378 (by decide) ?_
    first | exact zsub' (kk _ hO _ (by omega) (by omega) (by unfold tS4; rw [if_pos (by omega)]; exact ht)) ⟨rfl, rfl, rfl, rfl, rfl, rfl, rfl, rfl, trivial⟩ | exact zsub' (kk _ hO _ (by omega) (by omega) (by unfold tS4; rw [if_neg (by omega)]; exact ht)) ⟨rfl, rfl, rfl, rfl, rfl, rfl, rfl, rfl, trivial⟩ | exact zsub' (kk _ hO _ (by omega) (by omega) (by unfold tS4; rw [if_neg (by omega), if_pos (by omega)]; exact ht)) ⟨rfl, rfl, rfl, rfl, rfl, rfl, rfl, rfl, trivial⟩ | exact zsub' (kk _ hO _ (by omega) (by omega) (by unfold tS4; rw [if_neg (by omega), if_neg (by omega)]; exact ht)) ⟨rfl, rfl, rfl, rfl, rfl, rfl, rfl, rfl, trivial⟩ | exact zsub' (kk _ hO _ (by omega) (by omega) (by unfold tS4; rw [if_pos (show _ < (2 : Int) by omega), if_pos (by omega)]; exact ht)) ⟨rfl, rfl, rfl, rfl, rfl, rfl, rfl, rfl, trivial⟩ | exact zsub' (kk _ hO _ (by omega) (by omega) (by unfold tS4; rw [if_pos (show _ < (2 : Int) by omega), if_neg (by omega)]; exact ht)) ⟨rfl, rfl, rfl, rfl, rfl, rfl, rfl, rfl, trivial⟩

theorem acT5 {G : zG} {Q : Option zV → zM → Prop} {b : Int} {A : wAb} {M : zM} {c j e : Int} {x : wTt} (hO : zO b M A) (hc : 0 ≤ c ∧ c < 2147483648) (hj : 0 ≤ j ∧ j ≤ 3) (ht : wTx M x.1 x.2) (hx : 0 ≤ x.2 ∧ x.2 < 59) (he : 0 ≤ e ∧ e ≤ 60) (he1 : 1 ≤ e) (kk : ∀ N : zM, zO b N A → ∀ e2 : Int, (0 ≤ e2 ∧ e2 ≤ 60) → 1 ≤ e2 → wTx N (tS5 (tZ (c / 32) j % 3) (tZ (c / 32) j) x).1 (tS5 (tZ (c / 32) j % 3) (tZ (c / 32) j) x).2 → zW G YL_acts Q 408 [(7, .inl (tZ (c / 32) j % 3)), (6, .inl (tZ (c / 32) j)), (5, .inl j), (4, .inl e2), (2, .inl (c / 32)), (3, .inl (A.1 535)), (1, .inl c), (0, .inr (some 175))] [] N) : zW G YL_acts Q 380 [(7, .inl (tZ (c / 32) j % 3)), (6, .inl (tZ (c / 32) j)), (5, .inl j), (4, .inl e), (2, .inl (c / 32)), (3, .inl (A.1 535)), (1, .inl c), (0, .inr (some 175))] [] M := by
  have hz : 0 ≤ tZ (c / 32) j ∧ tZ (c / 32) j < 2147483648 := tZ_r (by omega)
  refine z_iload dL_acts_380 rfl ?_
  refine z_if_ne (tgt := 404) dL_acts_382 (by decide) (by omega) (fun c382 => ?_) (fun c382 => ?_)
  · refine z_iload dL_acts_404 rfl ?_
    refine z_istore dL_acts_406 (by decide) ?_
    first | exact zsub' (kk _ hO _ (by omega) (by omega) (by unfold tS5; rw [if_pos (by omega)]; exact ht)) ⟨rfl, rfl, rfl, rfl, rfl, rfl, rfl, rfl, trivial⟩ | exact zsub' (kk _ hO _ (by omega) (by omega) (by unfold tS5; rw [if_neg (by omega)]; exact ht)) ⟨rfl, rfl, rfl, rfl, rfl, rfl, rfl, rfl, trivial⟩ | exact zsub' (kk _ hO _ (by omega) (by omega) (by unfold tS5; rw [if_neg (by omega), if_pos (by omega)]; exact ht)) ⟨rfl, rfl, rfl, rfl, rfl, rfl, rfl, rfl, trivial⟩ | exact zsub' (kk _ hO _ (by omega) (by omega) (by unfold tS5; rw [if_neg (by omega), if_neg (by omega)]; exact ht)) ⟨rfl, rfl, rfl, rfl, rfl, rfl, rfl, rfl, trivial⟩ | exact zsub' (kk _ hO _ (by omega) (by omega) (by unfold tS5; rw [if_pos (show _ < (2 : Int) by omega), if_pos (by omega)]; exact ht)) ⟨rfl, rfl, rfl, rfl, rfl, rfl, rfl, rfl, trivial⟩ | exact zsub' (kk _ hO _ (by omega) (by omega) (by unfold tS5; rw [if_pos (show _ < (2 : Int) by omega), if_neg (by omega)]; exact ht)) ⟨rfl, rfl, rfl, rfl, rfl, rfl, rfl, rfl, trivial⟩
  · refine z_aload_n dL_acts_385 rfl ?_
    refine z_bipush dL_acts_386 (by decide) ?_
    refine z_iload dL_acts_388 rfl ?_
    refine z_bipush dL_acts_390 (by decide) ?_
    refine z_idiv dL_acts_392 (by omega) (by decide) ?_
    refine z_bipush dL_acts_393 (by decide) ?_
    refine z_irem dL_acts_395 (by omega) (by decide) ?_
    refine z_iadd dL_acts_396 ?_
    refine z_i2c dL_acts_397 (by omega) ?_
    refine z_callV mX4_type (a_type (by omega) (by omega) ht hO) rfl dL_acts_398 kL_42 (by decide) rfl (by show _ ≤ 8; simp) (by decide) (zsh175) (by decide) rfl (fun v398 M398 q398 => ?_)
    obtain ⟨rfl, hO, ht⟩ := q398
    try simp only [zpush]
    refine z_goto (tgt := 406) dL_acts_401 (by decide) ?_
    refine z_istore dL_acts_406 (by decide) ?_
    first | exact zsub' (kk _ hO _ (by omega) (by omega) (by unfold tS5; rw [if_pos (by omega)]; exact ht)) ⟨rfl, rfl, rfl, rfl, rfl, rfl, rfl, rfl, trivial⟩ | exact zsub' (kk _ hO _ (by omega) (by omega) (by unfold tS5; rw [if_neg (by omega)]; exact ht)) ⟨rfl, rfl, rfl, rfl, rfl, rfl, rfl, rfl, trivial⟩ | exact zsub' (kk _ hO _ (by omega) (by omega) (by unfold tS5; rw [if_neg (by omega), if_pos (by omega)]; exact ht)) ⟨rfl, rfl, rfl, rfl, rfl, rfl, rfl, rfl, trivial⟩ | exact zsub' (kk _ hO _ (by omega) (by omega) (by unfold tS5; rw [if_neg (by omega), if_neg (by omega)]; exact ht)) ⟨rfl, rfl, rfl, rfl, rfl, rfl, rfl, rfl, trivial⟩ | exact zsub' (kk _ hO _ (by omega) (by omega) (by unfold tS5; rw [if_pos (show _ < (2 : Int) by omega), if_pos (by omega)]; exact ht)) ⟨rfl, rfl, rfl, rfl, rfl, rfl, rfl, rfl, trivial⟩ | exact zsub' (kk _ hO _ (by omega) (by omega) (by unfold tS5; rw [if_pos (show _ < (2 : Int) by omega), if_neg (by omega)]; exact ht)) ⟨rfl, rfl, rfl, rfl, rfl, rfl, rfl, rfl, trivial⟩

theorem acT6 {G : zG} {Q : Option zV → zM → Prop} {b : Int} {A : wAb} {M : zM} {c j e : Int} {x : wTt} (hO : zO b M A) (hc : 0 ≤ c ∧ c < 2147483648) (hj : 0 ≤ j ∧ j ≤ 3) (ht : wTx M x.1 x.2) (hx : 0 ≤ x.2 ∧ x.2 < 59) (he : 0 ≤ e ∧ e ≤ 60) (he1 : 1 ≤ e) (kk : ∀ N : zM, zO b N A → ∀ e2 : Int, (0 ≤ e2 ∧ e2 ≤ 60) → 1 ≤ e2 → wTx N (tS6 (tZ (c / 32) j % 3) x).1 (tS6 (tZ (c / 32) j % 3) x).2 → zW G YL_acts Q 427 [(7, .inl (tZ (c / 32) j % 3)), (6, .inl (tZ (c / 32) j)), (5, .inl j), (4, .inl e2), (2, .inl (c / 32)), (3, .inl (A.1 535)), (1, .inl c), (0, .inr (some 175))] [] N) : zW G YL_acts Q 408 [(7, .inl (tZ (c / 32) j % 3)), (6, .inl (tZ (c / 32) j)), (5, .inl j), (4, .inl e), (2, .inl (c / 32)), (3, .inl (A.1 535)), (1, .inl c), (0, .inr (some 175))] [] M := by
  have hz : 0 ≤ tZ (c / 32) j ∧ tZ (c / 32) j < 2147483648 := tZ_r (by omega)
  refine z_iload dL_acts_408 rfl ?_
  refine z_iconst dL_acts_410 ?_
  refine z_icmp_ne (tgt := 423) dL_acts_411 (by decide) (by omega) (by decide) (fun c411 => ?_) (fun c411 => ?_)
  · refine z_iload dL_acts_423 rfl ?_
    refine z_istore dL_acts_425 (by decide) ?_
    first | exact zsub' (kk _ hO _ (by omega) (by omega) (by unfold tS6; rw [if_pos (by omega)]; exact ht)) ⟨rfl, rfl, rfl, rfl, rfl, rfl, rfl, rfl, trivial⟩ | exact zsub' (kk _ hO _ (by omega) (by omega) (by unfold tS6; rw [if_neg (by omega)]; exact ht)) ⟨rfl, rfl, rfl, rfl, rfl, rfl, rfl, rfl, trivial⟩ | exact zsub' (kk _ hO _ (by omega) (by omega) (by unfold tS6; rw [if_neg (by omega), if_pos (by omega)]; exact ht)) ⟨rfl, rfl, rfl, rfl, rfl, rfl, rfl, rfl, trivial⟩ | exact zsub' (kk _ hO _ (by omega) (by omega) (by unfold tS6; rw [if_neg (by omega), if_neg (by omega)]; exact ht)) ⟨rfl, rfl, rfl, rfl, rfl, rfl, rfl, rfl, trivial⟩ | exact zsub' (kk _ hO _ (by omega) (by omega) (by unfold tS6; rw [if_pos (show _ < (2 : Int) by omega), if_pos (by omega)]; exact ht)) ⟨rfl, rfl, rfl, rfl, rfl, rfl, rfl, rfl, trivial⟩ | exact zsub' (kk _ hO _ (by omega) (by omega) (by unfold tS6; rw [if_pos (show _ < (2 : Int) by omega), if_neg (by omega)]; exact ht)) ⟨rfl, rfl, rfl, rfl, rfl, rfl, rfl, rfl, trivial⟩
  · refine z_aload_n dL_acts_414 rfl ?_
    refine z_bipush dL_acts_415 (by decide) ?_
    refine z_callV mX4_type (a_type (by omega) (by omega) ht hO) rfl dL_acts_417 kL_42 (by decide) rfl (by show _ ≤ 8; simp) (by decide) (zsh175) (by decide) rfl (fun v417 M417 q417 => ?_)
    obtain ⟨rfl, hO, ht⟩ := q417
    try simp only [zpush]
    refine z_goto (tgt := 425) dL_acts_420 (by decide) ?_
    refine z_istore dL_acts_425 (by decide) ?_
    first | exact zsub' (kk _ hO _ (by omega) (by omega) (by unfold tS6; rw [if_pos (by omega)]; exact ht)) ⟨rfl, rfl, rfl, rfl, rfl, rfl, rfl, rfl, trivial⟩ | exact zsub' (kk _ hO _ (by omega) (by omega) (by unfold tS6; rw [if_neg (by omega)]; exact ht)) ⟨rfl, rfl, rfl, rfl, rfl, rfl, rfl, rfl, trivial⟩ | exact zsub' (kk _ hO _ (by omega) (by omega) (by unfold tS6; rw [if_neg (by omega), if_pos (by omega)]; exact ht)) ⟨rfl, rfl, rfl, rfl, rfl, rfl, rfl, rfl, trivial⟩ | exact zsub' (kk _ hO _ (by omega) (by omega) (by unfold tS6; rw [if_neg (by omega), if_neg (by omega)]; exact ht)) ⟨rfl, rfl, rfl, rfl, rfl, rfl, rfl, rfl, trivial⟩ | exact zsub' (kk _ hO _ (by omega) (by omega) (by unfold tS6; rw [if_pos (show _ < (2 : Int) by omega), if_pos (by omega)]; exact ht)) ⟨rfl, rfl, rfl, rfl, rfl, rfl, rfl, rfl, trivial⟩ | exact zsub' (kk _ hO _ (by omega) (by omega) (by unfold tS6; rw [if_pos (show _ < (2 : Int) by omega), if_neg (by omega)]; exact ht)) ⟨rfl, rfl, rfl, rfl, rfl, rfl, rfl, rfl, trivial⟩

theorem acT7 {G : zG} {Q : Option zV → zM → Prop} {b : Int} {A : wAb} {M : zM} {c j e : Int} {x : wTt} (hO : zO b M A) (hc : 0 ≤ c ∧ c < 2147483648) (hj : 0 ≤ j ∧ j ≤ 3) (ht : wTx M x.1 x.2) (hx : 0 ≤ x.2 ∧ x.2 < 59) (he : 0 ≤ e ∧ e ≤ 60) (he1 : 1 ≤ e) (kk : ∀ N : zM, zO b N A → ∀ e2 : Int, (0 ≤ e2 ∧ e2 ≤ 60) → 1 ≤ e2 → wTx N (tS7 (tZ (c / 32) j % 3) (tZ (c / 32) j) x).1 (tS7 (tZ (c / 32) j % 3) (tZ (c / 32) j) x).2 → zW G YL_acts Q 456 [(7, .inl (tZ (c / 32) j % 3)), (6, .inl (tZ (c / 32) j)), (5, .inl j), (4, .inl e2), (2, .inl (c / 32)), (3, .inl (A.1 535)), (1, .inl c), (0, .inr (some 175))] [] N) : zW G YL_acts Q 427 [(7, .inl (tZ (c / 32) j % 3)), (6, .inl (tZ (c / 32) j)), (5, .inl j), (4, .inl e), (2, .inl (c / 32)), (3, .inl (A.1 535)), (1, .inl c), (0, .inr (some 175))] [] M := by
  have hz : 0 ≤ tZ (c / 32) j ∧ tZ (c / 32) j < 2147483648 := tZ_r (by omega)
  refine z_iload dL_acts_427 rfl ?_
  refine z_iconst dL_acts_429 ?_
  refine z_icmp_ne (tgt := 452) dL_acts_430 (by decide) (by omega) (by decide) (fun c430 => ?_) (fun c430 => ?_)
  · refine z_iload dL_acts_452 rfl ?_
    refine z_istore dL_acts_454 (by decide) ?_
    first | exact zsub' (kk _ hO _ (by omega) (by omega) (by unfold tS7; rw [if_pos (by omega)]; exact ht)) ⟨rfl, rfl, rfl, rfl, rfl, rfl, rfl, rfl, trivial⟩ | exact zsub' (kk _ hO _ (by omega) (by omega) (by unfold tS7; rw [if_neg (by omega)]; exact ht)) ⟨rfl, rfl, rfl, rfl, rfl, rfl, rfl, rfl, trivial⟩ | exact zsub' (kk _ hO _ (by omega) (by omega) (by unfold tS7; rw [if_neg (by omega), if_pos (by omega)]; exact ht)) ⟨rfl, rfl, rfl, rfl, rfl, rfl, rfl, rfl, trivial⟩ | exact zsub' (kk _ hO _ (by omega) (by omega) (by unfold tS7; rw [if_neg (by omega), if_neg (by omega)]; exact ht)) ⟨rfl, rfl, rfl, rfl, rfl, rfl, rfl, rfl, trivial⟩ | exact zsub' (kk _ hO _ (by omega) (by omega) (by unfold tS7; rw [if_pos (show _ < (2 : Int) by omega), if_pos (by omega)]; exact ht)) ⟨rfl, rfl, rfl, rfl, rfl, rfl, rfl, rfl, trivial⟩ | exact zsub' (kk _ hO _ (by omega) (by omega) (by unfold tS7; rw [if_pos (show _ < (2 : Int) by omega), if_neg (by omega)]; exact ht)) ⟨rfl, rfl, rfl, rfl, rfl, rfl, rfl, rfl, trivial⟩
  · refine z_aload_n dL_acts_433 rfl ?_
    refine z_bipush dL_acts_434 (by decide) ?_
    refine z_iload dL_acts_436 rfl ?_
    refine z_bipush dL_acts_438 (by decide) ?_
    refine z_idiv dL_acts_440 (by omega) (by decide) ?_
    refine z_bipush dL_acts_441 (by decide) ?_
    refine z_irem dL_acts_443 (by omega) (by decide) ?_
    refine z_iadd dL_acts_444 ?_
    refine z_i2c dL_acts_445 (by omega) ?_
    refine z_callV mX4_type (a_type (by omega) (by omega) ht hO) rfl dL_acts_446 kL_42 (by decide) rfl (by show _ ≤ 8; simp) (by decide) (zsh175) (by decide) rfl (fun v446 M446 q446 => ?_)
    obtain ⟨rfl, hO, ht⟩ := q446
    try simp only [zpush]
    refine z_goto (tgt := 454) dL_acts_449 (by decide) ?_
    refine z_istore dL_acts_454 (by decide) ?_
    first | exact zsub' (kk _ hO _ (by omega) (by omega) (by unfold tS7; rw [if_pos (by omega)]; exact ht)) ⟨rfl, rfl, rfl, rfl, rfl, rfl, rfl, rfl, trivial⟩ | exact zsub' (kk _ hO _ (by omega) (by omega) (by unfold tS7; rw [if_neg (by omega)]; exact ht)) ⟨rfl, rfl, rfl, rfl, rfl, rfl, rfl, rfl, trivial⟩ | exact zsub' (kk _ hO _ (by omega) (by omega) (by unfold tS7; rw [if_neg (by omega), if_pos (by omega)]; exact ht)) ⟨rfl, rfl, rfl, rfl, rfl, rfl, rfl, rfl, trivial⟩ | exact zsub' (kk _ hO _ (by omega) (by omega) (by unfold tS7; rw [if_neg (by omega), if_neg (by omega)]; exact ht)) ⟨rfl, rfl, rfl, rfl, rfl, rfl, rfl, rfl, trivial⟩ | exact zsub' (kk _ hO _ (by omega) (by omega) (by unfold tS7; rw [if_pos (show _ < (2 : Int) by omega), if_pos (by omega)]; exact ht)) ⟨rfl, rfl, rfl, rfl, rfl, rfl, rfl, rfl, trivial⟩ | exact zsub' (kk _ hO _ (by omega) (by omega) (by unfold tS7; rw [if_pos (show _ < (2 : Int) by omega), if_neg (by omega)]; exact ht)) ⟨rfl, rfl, rfl, rfl, rfl, rfl, rfl, rfl, trivial⟩
