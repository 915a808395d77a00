/-! ===== hangs(): its end ===== -/
def hgQ (b : Int) (A : wAb) (v : Option zV) (N : zM) : Prop := v = some (.inl 1) ∧ zO b N A

theorem hgX {G : zG} {Q : Option zV → zM → Prop} {b : Int} {A : wAb} {M : zM} {R : Nat} (hO : zO b M A) (h6 : rkB A.1 (A.1 535) R) (k1204 : ∀ N : zM, zO b N A → zW G YL_hangs Q 1204 [(12, .inl (sLead A.1)), (13, .inl (sBest A.1 40).1), (6, .inl (sIn A.1 0)), (7, .inl (sIn A.1 1)), (8, .inl (sOf A.1 5)), (9, .inl (sOf A.1 6)), (10, .inl (sOf A.1 7)), (11, .inl (R : Int)), (1, .inl (sTrl A.1)), (2, .inl (sFro A.1)), (3, .inl (sIn A.1 0)), (4, .inl 1), (5, .inl (A.1 535)), (0, .inr (some 175))] [] N) : zW G YL_hangs Q 1094 [(6, .inl (sIn A.1 0)), (7, .inl (sIn A.1 1)), (8, .inl (sOf A.1 5)), (9, .inl (sOf A.1 6)), (10, .inl (sOf A.1 7)), (11, .inl (R : Int)), (1, .inl (sTrl A.1)), (2, .inl (sFro A.1)), (3, .inl (sIn A.1 0)), (4, .inl 1), (5, .inl (A.1 535)), (0, .inr (some 175))] [] M := by
  obtain ⟨hbit, hin⟩ := rkB_end h6 hO.1.2
  have hm := zI_m hO.1.2.1.1.1
  have h8 := hO.1.2.1.2.1
  have hin0 := sIn_r (σ := A.1) hm.1 0
  have hl := sLead_all (σ := A.1) hm
  have hb := sBest_all hO.1.2.1.1 h8 (slime := 40) (by decide)
  refine z_aload_n dL_hangs_1094 rfl ?_
  refine z_callV mX4_leader (t_leader hO) rfl dL_hangs_1095 kL_73 (by decide) rfl (by show _ ≤ 8; simp) (by decide) (zsh175) (by decide) rfl (fun v1095 M1095 q1095 => ?_)
  obtain ⟨rfl, hO⟩ := q1095
  try simp only [zpush]
  refine z_istore dL_hangs_1098 (by decide) ?_
  refine z_aload_n dL_hangs_1100 rfl ?_
  refine z_bipush dL_hangs_1101 (by decide) ?_
  refine z_iconst dL_hangs_1103 ?_
  refine z_callV mX4_bestLane (t_bestLane (by decide) (by decide) hO) rfl dL_hangs_1104 kL_76 (by decide) rfl (by show _ ≤ 8; simp) (by decide) (zsh175) (by decide) rfl (fun v1104 M1104 q1104 => ?_)
  obtain ⟨rfl, hO⟩ := q1104
  try simp only [zpush]
  rw [show sBestLane A.1 40 0 = (sBest A.1 40).1 from by unfold sBestLane; rw [if_neg (by decide)]; rfl]
  refine z_istore dL_hangs_1107 (by decide) ?_
  refine z_iload dL_hangs_1109 rfl ?_
  refine z_if_eq (tgt := 1328) dL_hangs_1111 (by decide) (by decide) (fun h => absurd h (by decide)) (fun _ => ?_)
  refine z_iload_n dL_hangs_1114 rfl ?_
  refine z_aload_n dL_hangs_1115 rfl ?_
  refine z_iconst dL_hangs_1116 ?_
  refine z_callV mX4_count (t_count (w := 4) (by decide) (by decide) hO) rfl dL_hangs_1117 kL_9 (by decide) rfl (by show _ ≤ 8; simp) (by decide) (zsh175) (by decide) rfl (fun v1117 M1117 q1117 => ?_)
  obtain ⟨rfl, hO⟩ := q1117
  try simp only [zpush]
  rw [show sCount A.1 A.2.1.1 0 4 = sTrl A.1 from rfl]
  refine z_same_ne (tgt := 1328) dL_hangs_1120 (by decide) ?_
  refine z_iload_n dL_hangs_1123 rfl ?_
  refine z_aload_n dL_hangs_1124 rfl ?_
  refine z_iconst dL_hangs_1125 ?_
  refine z_callV mX4_count (t_count (w := 5) (by decide) (by decide) hO) rfl dL_hangs_1126 kL_9 (by decide) rfl (by show _ ≤ 8; simp) (by decide) (zsh175) (by decide) rfl (fun v1126 M1126 q1126 => ?_)
  obtain ⟨rfl, hO⟩ := q1126
  try simp only [zpush]
  rw [show sCount A.1 A.2.1.1 0 5 = sFro A.1 from rfl]
  refine z_same_ne (tgt := 1328) dL_hangs_1129 (by decide) ?_
  refine z_iload_n dL_hangs_1132 rfl ?_
  refine z_iload dL_hangs_1133 rfl ?_
  refine z_same_ne (tgt := 1328) dL_hangs_1135 (by decide) ?_
  refine z_iload dL_hangs_1138 rfl ?_
  refine z_aload_n dL_hangs_1140 rfl ?_
  refine z_iconst dL_hangs_1141 ?_
  refine z_callV mX4_count (t_count (w := 2) (by decide) (by decide) hO) rfl dL_hangs_1142 kL_9 (by decide) rfl (by show _ ≤ 8; simp) (by decide) (zsh175) (by decide) rfl (fun v1142 M1142 q1142 => ?_)
  obtain ⟨rfl, hO⟩ := q1142
  try simp only [zpush]
  rw [show sCount A.1 A.2.1.1 0 2 = sIn A.1 0 from rfl]
  refine z_same_ne (tgt := 1328) dL_hangs_1145 (by decide) ?_
  refine z_iload dL_hangs_1148 rfl ?_
  refine z_aload_n dL_hangs_1150 rfl ?_
  refine z_iconst dL_hangs_1151 ?_
  refine z_callV mX4_count (t_count (w := 3) (by decide) (by decide) hO) rfl dL_hangs_1152 kL_9 (by decide) rfl (by show _ ≤ 8; simp) (by decide) (zsh175) (by decide) rfl (fun v1152 M1152 q1152 => ?_)
  obtain ⟨rfl, hO⟩ := q1152
  try simp only [zpush]
  rw [show sCount A.1 A.2.1.1 0 3 = sIn A.1 1 from rfl]
  refine z_same_ne (tgt := 1328) dL_hangs_1155 (by decide) ?_
  refine z_iload dL_hangs_1158 rfl ?_
  refine z_iconst dL_hangs_1160 ?_
  refine z_iload dL_hangs_1161 rfl ?_
  refine z_iconst dL_hangs_1163 ?_
  refine z_iadd dL_hangs_1164 ?_
  refine z_ishl dL_hangs_1165 (by omega) ?_
  refine z_iconst dL_hangs_1166 ?_
  refine z_isub dL_hangs_1167 ?_
  rw [hbit]
  refine z_same_ne (tgt := 1328) dL_hangs_1168 (by decide) ?_
  refine z_iload dL_hangs_1171 rfl ?_
  refine z_aload_n dL_hangs_1173 rfl ?_
  refine z_bipush dL_hangs_1174 (by decide) ?_
  refine z_callV mX4_count (t_count (w := 6) (by decide) (by decide) hO) rfl dL_hangs_1176 kL_9 (by decide) rfl (by show _ ≤ 8; simp) (by decide) (zsh175) (by decide) rfl (fun v1176 M1176 q1176 => ?_)
  obtain ⟨rfl, hO⟩ := q1176
  try simp only [zpush]
  rw [show sCount A.1 A.2.1.1 0 6 = sOf A.1 5 from rfl]
  refine z_same_ne (tgt := 1328) dL_hangs_1179 (by decide) ?_
  refine z_iload dL_hangs_1182 rfl ?_
  refine z_aload_n dL_hangs_1184 rfl ?_
  refine z_bipush dL_hangs_1185 (by decide) ?_
  refine z_callV mX4_count (t_count (w := 7) (by decide) (by decide) hO) rfl dL_hangs_1187 kL_9 (by decide) rfl (by show _ ≤ 8; simp) (by decide) (zsh175) (by decide) rfl (fun v1187 M1187 q1187 => ?_)
  obtain ⟨rfl, hO⟩ := q1187
  try simp only [zpush]
  rw [show sCount A.1 A.2.1.1 0 7 = sOf A.1 6 from rfl]
  refine z_same_ne (tgt := 1328) dL_hangs_1190 (by decide) ?_
  refine z_iload dL_hangs_1193 rfl ?_
  refine z_aload_n dL_hangs_1195 rfl ?_
  refine z_bipush dL_hangs_1196 (by decide) ?_
  refine z_callV mX4_count (t_count (w := 8) (by decide) (by decide) hO) rfl dL_hangs_1198 kL_9 (by decide) rfl (by show _ ≤ 8; simp) (by decide) (zsh175) (by decide) rfl (fun v1198 M1198 q1198 => ?_)
  obtain ⟨rfl, hO⟩ := q1198
  try simp only [zpush]
  rw [show sCount A.1 A.2.1.1 0 8 = sOf A.1 7 from rfl]
  refine z_same_ne (tgt := 1328) dL_hangs_1201 (by decide) ?_
  exact zsub' (k1204 _ hO) ⟨rfl, rfl, rfl, rfl, rfl, rfl, rfl, rfl, rfl, rfl, rfl, rfl, rfl, rfl, trivial⟩

theorem hgY {G : zG} {Q : Option zV → zM → Prop} {b : Int} {A : wAb} {M : zM} {R : Nat} (hO : zO b M A) (h6 : rkB A.1 (A.1 535) R) (k1246 : ∀ N : zM, zO b N A → zW G YL_hangs Q 1246 [(12, .inl (sLead A.1)), (13, .inl (sBest A.1 40).1), (6, .inl (sIn A.1 0)), (7, .inl (sIn A.1 1)), (8, .inl (sOf A.1 5)), (9, .inl (sOf A.1 6)), (10, .inl (sOf A.1 7)), (11, .inl (R : Int)), (1, .inl (sTrl A.1)), (2, .inl (sFro A.1)), (3, .inl (sIn A.1 0)), (4, .inl 1), (5, .inl (A.1 535)), (0, .inr (some 175))] [] N) : zW G YL_hangs Q 1204 [(12, .inl (sLead A.1)), (13, .inl (sBest A.1 40).1), (6, .inl (sIn A.1 0)), (7, .inl (sIn A.1 1)), (8, .inl (sOf A.1 5)), (9, .inl (sOf A.1 6)), (10, .inl (sOf A.1 7)), (11, .inl (R : Int)), (1, .inl (sTrl A.1)), (2, .inl (sFro A.1)), (3, .inl (sIn A.1 0)), (4, .inl 1), (5, .inl (A.1 535)), (0, .inr (some 175))] [] M := by
  obtain ⟨hbit, hin⟩ := rkB_end h6 hO.1.2
  have hm := zI_m hO.1.2.1.1.1
  have h8 := hO.1.2.1.2.1
  have hin0 := sIn_r (σ := A.1) hm.1 0
  have hl := sLead_all (σ := A.1) hm
  have hb := sBest_all hO.1.2.1.1 h8 (slime := 40) (by decide)
  rcases hl with hl | hl
  · refine z_iload dL_hangs_1204 rfl ?_
    refine z_bipush dL_hangs_1206 (by decide) ?_
    refine z_icmp_ne (tgt := 1215) dL_hangs_1208 (by decide) (by omega) (by decide) (fun c1208 => ?_) (fun c1208 => ?_)
    · exact absurd trivial (by omega)
    · refine z_iconst dL_hangs_1211 ?_
      refine z_goto (tgt := 1216) dL_hangs_1212 (by decide) ?_
      refine z_iload dL_hangs_1216 rfl ?_
      refine z_if_ne (tgt := 1225) dL_hangs_1218 (by decide) (by omega) (fun c1218 => ?_) (fun c1218 => ?_)
      · exact absurd trivial (by omega)
      · refine z_iconst dL_hangs_1221 ?_
        refine z_goto (tgt := 1226) dL_hangs_1222 (by decide) ?_
        refine z_icmp_ne (tgt := 1328) dL_hangs_1226 (by decide) (by decide) (by decide) (fun h => absurd h (by decide)) (fun _ => ?_)
        refine z_iload dL_hangs_1229 rfl ?_
        refine z_bipush dL_hangs_1231 (by decide) ?_
        refine z_icmp_eq (tgt := 1246) dL_hangs_1233 (by decide) (by omega) (by decide) (fun c1233 => ?_) (fun c1233 => ?_)
        · exact zsub' (k1246 _ hO) ⟨rfl, rfl, rfl, rfl, rfl, rfl, rfl, rfl, rfl, rfl, rfl, rfl, rfl, rfl, trivial⟩
        · exact absurd trivial (by omega)
  · refine z_iload dL_hangs_1204 rfl ?_
    refine z_bipush dL_hangs_1206 (by decide) ?_
    refine z_icmp_ne (tgt := 1215) dL_hangs_1208 (by decide) (by omega) (by decide) (fun c1208 => ?_) (fun c1208 => ?_)
    · refine z_iconst dL_hangs_1215 ?_
      refine z_iload dL_hangs_1216 rfl ?_
      refine z_if_ne (tgt := 1225) dL_hangs_1218 (by decide) (by omega) (fun c1218 => ?_) (fun c1218 => ?_)
      · refine z_iconst dL_hangs_1225 ?_
        refine z_icmp_ne (tgt := 1328) dL_hangs_1226 (by decide) (by decide) (by decide) (fun h => absurd h (by decide)) (fun _ => ?_)
        refine z_iload dL_hangs_1229 rfl ?_
        refine z_bipush dL_hangs_1231 (by decide) ?_
        refine z_icmp_eq (tgt := 1246) dL_hangs_1233 (by decide) (by omega) (by decide) (fun c1233 => ?_) (fun c1233 => ?_)
        · exact absurd trivial (by omega)
        · refine z_aload_n dL_hangs_1236 rfl ?_
          refine z_iload dL_hangs_1237 rfl ?_
          refine z_iconst dL_hangs_1239 ?_
          refine z_callV mX4_snail (t_sn (w := 3) hl.1 (by decide) hO) rfl dL_hangs_1240 kL_55 (by decide) rfl (by show _ ≤ 8; simp) (by decide) (zsh175) (by decide) rfl (fun v1240 M1240 q1240 => ?_)
          obtain ⟨rfl, hO⟩ := q1240
          try simp only [zpush]
          refine z_if_ne (tgt := 1328) dL_hangs_1243 (by decide) (by omega) (fun c1243 => ?_) (fun c1243 => ?_)
          · exact absurd trivial (by omega)
          · exact zsub' (k1246 _ hO) ⟨rfl, rfl, rfl, rfl, rfl, rfl, rfl, rfl, rfl, rfl, rfl, rfl, rfl, rfl, trivial⟩
      · exact absurd trivial (by omega)
    · exact absurd trivial (by omega)

theorem hgW {G : zG} {Q : Option zV → zM → Prop} {b : Int} {A : wAb} {M : zM} {R : Nat} (hO : zO b M A) (h6 : rkB A.1 (A.1 535) R) (k1305 : ∀ N : zM, zO b N A → zW G YL_hangs Q 1305 [(12, .inl (sLead A.1)), (13, .inl (sBest A.1 40).1), (6, .inl (sIn A.1 0)), (7, .inl (sIn A.1 1)), (8, .inl (sOf A.1 5)), (9, .inl (sOf A.1 6)), (10, .inl (sOf A.1 7)), (11, .inl (R : Int)), (1, .inl (sTrl A.1)), (2, .inl (sFro A.1)), (3, .inl (sIn A.1 0)), (4, .inl 1), (5, .inl (A.1 535)), (0, .inr (some 175))] [] N) : zW G YL_hangs Q 1246 [(12, .inl (sLead A.1)), (13, .inl (sBest A.1 40).1), (6, .inl (sIn A.1 0)), (7, .inl (sIn A.1 1)), (8, .inl (sOf A.1 5)), (9, .inl (sOf A.1 6)), (10, .inl (sOf A.1 7)), (11, .inl (R : Int)), (1, .inl (sTrl A.1)), (2, .inl (sFro A.1)), (3, .inl (sIn A.1 0)), (4, .inl 1), (5, .inl (A.1 535)), (0, .inr (some 175))] [] M := by
  obtain ⟨hbit, hin⟩ := rkB_end h6 hO.1.2
  have hm := zI_m hO.1.2.1.1.1
  have h8 := hO.1.2.1.2.1
  have hin0 := sIn_r (σ := A.1) hm.1 0
  have hl := sLead_all (σ := A.1) hm
  have hb := sBest_all hO.1.2.1.1 h8 (slime := 40) (by decide)
  rcases hb with hb | hb
  · refine z_iload dL_hangs_1246 rfl ?_
    refine z_bipush dL_hangs_1248 (by decide) ?_
    refine z_icmp_ne (tgt := 1268) dL_hangs_1250 (by decide) (by omega) (by decide) (fun c1250 => ?_) (fun c1250 => ?_)
    · exact absurd trivial (by omega)
    · refine z_aload_n dL_hangs_1253 rfl ?_
      refine z_bipush dL_hangs_1254 (by decide) ?_
      refine z_iconst dL_hangs_1256 ?_
      refine z_callV mX4_bestLane (t_bestLane (by decide) (by decide) hO) rfl dL_hangs_1257 kL_76 (by decide) rfl (by show _ ≤ 8; simp) (by decide) (zsh175) (by decide) rfl (fun v1257 M1257 q1257 => ?_)
      obtain ⟨rfl, hO⟩ := q1257
      try simp only [zpush]
      rw [show sBestLane A.1 40 1 = (sBest A.1 40).2 from by unfold sBestLane; rw [if_neg (by decide)]; rfl]
      refine z_bipush dL_hangs_1260 (by decide) ?_
      refine z_icmp_ne (tgt := 1328) dL_hangs_1262 (by decide) (by omega) (by decide) (fun c1262 => ?_) (fun c1262 => ?_)
      · exact absurd trivial (by omega)
      · refine z_goto (tgt := 1305) dL_hangs_1265 (by decide) ?_
        exact zsub' (k1305 _ hO) ⟨rfl, rfl, rfl, rfl, rfl, rfl, rfl, rfl, rfl, rfl, rfl, rfl, rfl, rfl, trivial⟩
  · refine z_iload dL_hangs_1246 rfl ?_
    refine z_bipush dL_hangs_1248 (by decide) ?_
    refine z_icmp_ne (tgt := 1268) dL_hangs_1250 (by decide) (by omega) (by decide) (fun c1250 => ?_) (fun c1250 => ?_)
    · refine z_iload dL_hangs_1268 rfl ?_
      refine z_if_lt (tgt := 1328) dL_hangs_1270 (by decide) (by omega) (fun c1270 => ?_) (fun c1270 => ?_)
      · exact absurd trivial (by omega)
      · refine z_iload dL_hangs_1273 rfl ?_
        refine z_bipush dL_hangs_1275 (by decide) ?_
        refine z_icmp_ge (tgt := 1328) dL_hangs_1277 (by decide) (by omega) (by decide) (fun c1277 => ?_) (fun c1277 => ?_)
        · exact absurd trivial (by omega)
        · refine z_aload_n dL_hangs_1280 rfl ?_
          refine z_iload dL_hangs_1281 rfl ?_
          refine z_iconst dL_hangs_1283 ?_
          refine z_iconst dL_hangs_1284 ?_
          refine z_callV mX4_cell (t_cell (by omega) (by decide) (by decide) hO) rfl dL_hangs_1285 kL_52 (by decide) rfl (by show _ ≤ 8; simp) (by decide) (zsh175) (by decide) rfl (fun v1285 M1285 q1285 => ?_)
          obtain ⟨rfl, hO⟩ := q1285
          try simp only [zpush]
          rw [show sCell A.1 (sBest A.1 40).1 0 3 = sOn A.1 (sBest A.1 40).1 0 from by unfold sCell; rw [if_neg (by omega), if_neg (by decide), if_neg (by decide), if_neg (by decide), if_pos rfl]]
          refine z_bipush dL_hangs_1288 (by decide) ?_
          refine z_icmp_ne (tgt := 1328) dL_hangs_1290 (by decide) (by omega) (by decide) (fun c1290 => ?_) (fun c1290 => ?_)
          · exact absurd trivial (by omega)
          · refine z_aload_n dL_hangs_1293 rfl ?_
            refine z_bipush dL_hangs_1294 (by decide) ?_
            refine z_iconst dL_hangs_1296 ?_
            refine z_callV mX4_bestLane (t_bestLane (by decide) (by decide) hO) rfl dL_hangs_1297 kL_76 (by decide) rfl (by show _ ≤ 8; simp) (by decide) (zsh175) (by decide) rfl (fun v1297 M1297 q1297 => ?_)
            obtain ⟨rfl, hO⟩ := q1297
            try simp only [zpush]
            rw [show sBestLane A.1 40 1 = (sBest A.1 40).2 from by unfold sBestLane; rw [if_neg (by decide)]; rfl]
            refine z_bipush dL_hangs_1300 (by decide) ?_
            refine z_icmp_lt (tgt := 1328) dL_hangs_1302 (by decide) (by omega) (by decide) (fun c1302 => ?_) (fun c1302 => ?_)
            · exact absurd trivial (by omega)
            · exact zsub' (k1305 _ hO) ⟨rfl, rfl, rfl, rfl, rfl, rfl, rfl, rfl, rfl, rfl, rfl, rfl, rfl, rfl, trivial⟩
    · exact absurd trivial (by omega)

theorem hgV {G : zG} {b : Int} {A : wAb} {M : zM} {R : Nat} (hO : zO b M A)  : zW G YL_hangs (hgQ b A) 1305 [(12, .inl (sLead A.1)), (13, .inl (sBest A.1 40).1), (6, .inl (sIn A.1 0)), (7, .inl (sIn A.1 1)), (8, .inl (sOf A.1 5)), (9, .inl (sOf A.1 6)), (10, .inl (sOf A.1 7)), (11, .inl (R : Int)), (1, .inl (sTrl A.1)), (2, .inl (sFro A.1)), (3, .inl (sIn A.1 0)), (4, .inl 1), (5, .inl (A.1 535)), (0, .inr (some 175))] [] M := by
  have h4 := hO.2.1.2.2.1
  refine z_aload_n dL_hangs_1305 rfl ?_
  refine z_bipush dL_hangs_1306 (by decide) ?_
  refine z_callV mX4_count (t_count (w := 13) (by decide) (by decide) hO) rfl dL_hangs_1308 kL_9 (by decide) rfl (by show _ ≤ 8; simp) (by decide) (zsh175) (by decide) rfl (fun v1308 M1308 q1308 => ?_)
  obtain ⟨rfl, hO⟩ := q1308
  try simp only [zpush]
  rw [show sCount A.1 A.2.1.1 0 13 = A.2.1.1 from rfl]
  refine z_if_lt (tgt := 1328) dL_hangs_1311 (by decide) (by omega) (fun c1311 => ?_) (fun c1311 => ?_)
  · exact absurd trivial (by omega)
  · refine z_aload_n dL_hangs_1314 rfl ?_
    refine z_bipush dL_hangs_1315 (by decide) ?_
    refine z_callV mX4_count (t_count (w := 13) (by decide) (by decide) hO) rfl dL_hangs_1317 kL_9 (by decide) rfl (by show _ ≤ 8; simp) (by decide) (zsh175) (by decide) rfl (fun v1317 M1317 q1317 => ?_)
    obtain ⟨rfl, hO⟩ := q1317
    try simp only [zpush]
    rw [show sCount A.1 A.2.1.1 0 13 = A.2.1.1 from rfl]
    refine z_iconst dL_hangs_1320 ?_
    refine z_icmp_ge (tgt := 1328) dL_hangs_1321 (by decide) (by omega) (by decide) (fun c1321 => ?_) (fun c1321 => ?_)
    · exact absurd trivial (by omega)
    · refine z_iconst dL_hangs_1324 ?_
      refine z_goto (tgt := 1329) dL_hangs_1325 (by decide) ?_
      refine z_zret dL_hangs_1329 rfl (Or.inr rfl) ?_
      exact ⟨rfl, hO⟩

theorem hgS {G : zG} {Q : Option zV → zM → Prop} {b : Int} {A : wAb} {M : zM}  (hO : zO b M A)  (k396 : ∀ N : zM, zO b N A → zW G YL_hangs Q 396 [(12, .inl 0), (6, .inl 0), (7, .inl 0), (8, .inl 0), (9, .inl 0), (10, .inl 0), (11, .inl 0), (1, .inl (sTrl A.1)), (2, .inl (sFro A.1)), (3, .inl (sIn A.1 0)), (4, .inl 1), (5, .inl (A.1 535)), (0, .inr (some 175))] [] N) : zW G YL_hangs Q 375 [(1, .inl (sTrl A.1)), (2, .inl (sFro A.1)), (3, .inl (sIn A.1 0)), (4, .inl 1), (5, .inl (A.1 535)), (0, .inr (some 175))] [] M := by
  refine z_iconst dL_hangs_375 ?_
  refine z_istore dL_hangs_376 (by decide) ?_
  refine z_iconst dL_hangs_378 ?_
  refine z_istore dL_hangs_379 (by decide) ?_
  refine z_iconst dL_hangs_381 ?_
  refine z_istore dL_hangs_382 (by decide) ?_
  refine z_iconst dL_hangs_384 ?_
  refine z_istore dL_hangs_385 (by decide) ?_
  refine z_iconst dL_hangs_387 ?_
  refine z_istore dL_hangs_388 (by decide) ?_
  refine z_iconst dL_hangs_390 ?_
  refine z_istore dL_hangs_391 (by decide) ?_
  refine z_iconst dL_hangs_393 ?_
  refine z_istore dL_hangs_394 (by decide) ?_
  exact zsub' (k396 _ hO) ⟨rfl, rfl, rfl, rfl, rfl, rfl, rfl, rfl, rfl, rfl, rfl, rfl, rfl, trivial⟩

theorem t_hangs {G : zG} {b : Int} {A : wAb} {M : zM} (hO : zO b M A) : zCall G yL_hangs YL_hangs [.inr (some 175)] M (hgQ b A) := by
  refine zEnter (by decide +kernel) rfl (Nat.le_of_ble_eq_true rfl) ?_
  refine z_iconst dL_hangs_0 ?_
  refine z_istore_n dL_hangs_1 (by decide) ?_
  refine z_iconst dL_hangs_2 ?_
  refine z_istore_n dL_hangs_3 (by decide) ?_
  refine z_iconst dL_hangs_4 ?_
  refine z_istore_n dL_hangs_5 (by decide) ?_
  refine z_iconst dL_hangs_6 ?_
  refine z_istore dL_hangs_7 (by decide) ?_
  refine z_aload_n dL_hangs_9 rfl ?_
  refine z_iconst dL_hangs_10 ?_
  refine z_callV mX4_count (t_count (w := 1) (by decide) (by decide) hO) rfl dL_hangs_11 kL_9 (by decide) rfl (by show _ ≤ 8; simp) (by decide) (zsh175) (by decide) rfl (fun v11 M11 q11 => ?_)
  obtain ⟨rfl, hO⟩ := q11
  try simp only [zpush]
  rw [show sCount A.1 A.2.1.1 0 1 = A.1 535 from rfl]
  refine z_istore dL_hangs_14 (by decide) ?_
  refine z_iconst dL_hangs_16 ?_
  refine z_istore dL_hangs_17 (by decide) ?_
  refine zsub' (hg_cells (fun N1 hO1 => ?_) 120 0 0 0 0 _ hO (by decide) (by decide) rfl rfl (th_sum hO.1.2.1.1.1 hO.1.2.2.2.1)) ⟨rfl, rfl, rfl, rfl, rfl, rfl, rfl, trivial⟩
  refine hgS hO1 (fun N2 hO2 => ?_)
  have hm := zI_m hO.1.2.1.1.1
  refine hg_snails (fun N3 R hO3 h6 => ?_) (A.1 535).toNat 0 0 0 0 0 0 0 N2 hO2 (by decide) (by omega) rfl rfl rfl rfl rfl (rkB_0 _)
  refine hgX hO3 h6 (fun N4 hO4 => ?_)
  refine hgY hO4 h6 (fun N5 hO5 => ?_)
  refine hgW hO5 h6 (fun N6 hO6 => ?_)
  exact hgV hO6
