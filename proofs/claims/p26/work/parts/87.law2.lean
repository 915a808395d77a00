/-! ===== the law: its first calls ===== -/
theorem sLead_0 : sLead zs0 = -5 := by
  unfold sLead
  rw [zs0_5, zfor_end (by decide)]

theorem law_0 {G : zG} {g : Int → Nat} {b : Nat} {F : dFt} {Qe : State → Prop} {A : Nat → Prop} {M N : zM} (hO : zO 0 M aT0) (hT : wTx M (fun _ => 0) 0) (hP : zO 0 N aT0) (kk : ∀ M N : zM, zO 0 M aT0 → zO 0 N aT0 → dW (lwX G g b F Qe A) 75 [(3, .inl 1), (0, .inr (some (-1))), (1, .inr (some 175)), (2, .inr (some 675))] [] M N) : dW (lwX G g b F Qe A) 16 [(0, .inr (some (-1))), (1, .inr (some 175)), (2, .inr (some 675))] [] M N := by
  refine d_aload_n dL_law_16 rfl ?_
  refine d_callV1 mX4_undo (e_undo rfl hO) (fun v M q => ⟨_, q.1⟩) rfl rfl dL_law_17 kL_29 ⟨Nat.le_of_ble_eq_true rfl, Nat.le_of_ble_eq_true rfl⟩ ⟨Nat.le_of_ble_eq_true rfl, Nat.le_of_ble_eq_true rfl⟩ rfl (by show _ ≤ 8; simp) rfl (fun x17 M17 q17 => ?_)
  obtain ⟨e17, em17⟩ := q17
  rw [zinj e17, em17]
  refine d_bipush dL_law_20 (by decide) ?_
  refine d_icmp_ne (tgt := 73) dL_law_22 (by decide) (by decide) (by decide) (fun h => absurd h (by decide)) (fun _ => ?_)
  refine d_aload_n dL_law_25 rfl ?_
  refine d_callV1 mX4_restore (e_restore rfl hO) (fun v M q => ⟨_, q.1⟩) rfl rfl dL_law_26 kL_36 ⟨Nat.le_of_ble_eq_true rfl, Nat.le_of_ble_eq_true rfl⟩ ⟨Nat.le_of_ble_eq_true rfl, Nat.le_of_ble_eq_true rfl⟩ rfl (by show _ ≤ 8; simp) rfl (fun x26 M26 q26 => ?_)
  obtain ⟨e26, em26⟩ := q26
  rw [zinj e26, em26]
  refine d_bipush dL_law_29 (by decide) ?_
  refine d_icmp_ne (tgt := 73) dL_law_31 (by decide) (by decide) (by decide) (fun h => absurd h (by decide)) (fun _ => ?_)
  refine d_aload_n dL_law_34 rfl ?_
  refine d_callV1 mX4_perform (e_perform hT hO) (fun v M q => ⟨_, q.1⟩) rfl rfl dL_law_35 kL_46 ⟨Nat.le_of_ble_eq_true rfl, Nat.le_of_ble_eq_true rfl⟩ ⟨Nat.le_of_ble_eq_true rfl, Nat.le_of_ble_eq_true rfl⟩ rfl (by show _ ≤ 8; simp) rfl (fun x35 M35 q35 => ?_)
  obtain ⟨e35, hO⟩ := q35
  rw [zinj e35]
  refine d_bipush dL_law_38 (by decide) ?_
  refine d_icmp_ne (tgt := 73) dL_law_40 (by decide) (by decide) (by decide) (fun h => absurd h (by decide)) (fun _ => ?_)
  refine d_aload_n dL_law_43 rfl ?_
  refine d_iconst dL_law_44 ?_
  refine d_callV1 mX4_stopped (t_stopped (w := 0) (by decide) hO) (fun v M q => ⟨_, q.1⟩) rfl rfl dL_law_45 kL_79 ⟨Nat.le_of_ble_eq_true rfl, Nat.le_of_ble_eq_true rfl⟩ ⟨Nat.le_of_ble_eq_true rfl, Nat.le_of_ble_eq_true rfl⟩ rfl (by show _ ≤ 8; simp) rfl (fun x45 M45 q45 => ?_)
  obtain ⟨e45, hO⟩ := q45
  rw [zinj e45]
  rw [show (if (0 : Int) = 0 then aT0.2.2.2.1 else if (0 : Int) = 1 then aT0.2.2.2.2 else -2) = -5 from rfl]
  refine d_bipush dL_law_48 (by decide) ?_
  refine d_icmp_ne (tgt := 73) dL_law_50 (by decide) (by decide) (by decide) (fun h => absurd h (by decide)) (fun _ => ?_)
  refine d_aload_n dL_law_53 rfl ?_
  refine d_callV1 mX4_leader (t_leader hO) (fun v M q => ⟨_, q.1⟩) rfl rfl dL_law_54 kL_73 ⟨Nat.le_of_ble_eq_true rfl, Nat.le_of_ble_eq_true rfl⟩ ⟨Nat.le_of_ble_eq_true rfl, Nat.le_of_ble_eq_true rfl⟩ rfl (by show _ ≤ 8; simp) rfl (fun x54 M54 q54 => ?_)
  obtain ⟨e54, hO⟩ := q54
  rw [zinj e54]
  rw [show sLead aT0.1 = -5 from sLead_0]
  refine d_bipush dL_law_57 (by decide) ?_
  refine d_icmp_ne (tgt := 73) dL_law_59 (by decide) (by decide) (by decide) (fun h => absurd h (by decide)) (fun _ => ?_)
  refine d_aload_n dL_law_62 rfl ?_
  refine d_callS1 mL_hangs (t_hangs hO) (fun v M q => ⟨_, q.1⟩) rfl rfl dL_law_63 kL_86 ⟨Nat.le_of_ble_eq_true rfl, Nat.le_of_ble_eq_true rfl⟩ ⟨Nat.le_of_ble_eq_true rfl, Nat.le_of_ble_eq_true rfl⟩ rfl (by show _ ≤ 8; simp) (fun x63 M63 q63 => ?_)
  obtain ⟨e63, hO⟩ := q63
  rw [zinj e63]
  refine d_if_eq (tgt := 73) dL_law_66 (by decide) (by decide) (fun h => absurd h (by decide)) (fun _ => ?_)
  refine d_iconst dL_law_69 ?_
  refine d_goto (tgt := 74) dL_law_70 (by decide) ?_
  refine d_istore_n dL_law_74 (Nat.le_of_ble_eq_true rfl) ?_
  exact d_sub (kk _ _ hO hP) ⟨rfl, rfl, rfl, rfl, trivial⟩
