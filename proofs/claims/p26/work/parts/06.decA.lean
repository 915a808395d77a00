theorem dX0_init_0 : decode cX0_init 0 = .ok (.aload_n 0, 1) := by decide +kernel
theorem dX0_init_1 : decode cX0_init 1 = .ok (.invokespecial 3, 3) := by decide +kernel
theorem dX0_init_4 : decode cX0_init 4 = .ok (.aload_n 0, 1) := by decide +kernel
theorem dX0_init_5 : decode cX0_init 5 = .ok (.iconst 4, 1) := by decide +kernel
theorem dX0_init_6 : decode cX0_init 6 = .ok (.anewarray 9, 3) := by decide +kernel
theorem dX0_init_9 : decode cX0_init 9 = .ok (.putfield 11, 3) := by decide +kernel
theorem dX0_init_12 : decode cX0_init 12 = .ok (.aload_n 0, 1) := by decide +kernel
theorem dX0_init_13 : decode cX0_init 13 = .ok (.iconst 0, 1) := by decide +kernel
theorem dX0_init_14 : decode cX0_init 14 = .ok (.putfield 17, 3) := by decide +kernel
theorem dX0_init_17 : decode cX0_init 17 = .ok (.aload_n 0, 1) := by decide +kernel
theorem dX0_init_18 : decode cX0_init 18 = .ok (.iconst 0, 1) := by decide +kernel
theorem dX0_init_19 : decode cX0_init 19 = .ok (.putfield 21, 3) := by decide +kernel
theorem dX0_init_22 : decode cX0_init 22 = .ok (.iconst 0, 1) := by decide +kernel
theorem dX0_init_23 : decode cX0_init 23 = .ok (.istore_n 1, 1) := by decide +kernel
theorem dX0_init_24 : decode cX0_init 24 = .ok (.iload_n 1, 1) := by decide +kernel
theorem dX0_init_25 : decode cX0_init 25 = .ok (.iconst 4, 1) := by decide +kernel
theorem dX0_init_26 : decode cX0_init 26 = .ok (.if_icmp .ge 22, 3) := by decide +kernel
theorem dX0_init_29 : decode cX0_init 29 = .ok (.aload_n 0, 1) := by decide +kernel
theorem dX0_init_30 : decode cX0_init 30 = .ok (.getfield 11, 3) := by decide +kernel
theorem dX0_init_33 : decode cX0_init 33 = .ok (.iload_n 1, 1) := by decide +kernel
theorem dX0_init_34 : decode cX0_init 34 = .ok (.new 9, 3) := by decide +kernel
theorem dX0_init_37 : decode cX0_init 37 = .ok (.dup, 1) := by decide +kernel
theorem dX0_init_38 : decode cX0_init 38 = .ok (.invokespecial 24, 3) := by decide +kernel
theorem dX0_init_41 : decode cX0_init 41 = .ok (.aastore, 1) := by decide +kernel
theorem dX0_init_42 : decode cX0_init 42 = .ok (.iinc 1 1, 3) := by decide +kernel
theorem dX0_init_45 : decode cX0_init 45 = .ok (.goto (-21), 3) := by decide +kernel
theorem dX0_init_48 : decode cX0_init 48 = .ok (.return_, 1) := by decide +kernel
theorem dX0_remember_0 : decode cX0_remember 0 = .ok (.aload_n 0, 1) := by decide +kernel
theorem dX0_remember_1 : decode cX0_remember 1 = .ok (.aload_n 0, 1) := by decide +kernel
theorem dX0_remember_2 : decode cX0_remember 2 = .ok (.getfield 21, 3) := by decide +kernel
theorem dX0_remember_5 : decode cX0_remember 5 = .ok (.invokevirtual 25, 3) := by decide +kernel
theorem dX0_remember_8 : decode cX0_remember 8 = .ok (.astore_n 2, 1) := by decide +kernel
theorem dX0_remember_9 : decode cX0_remember 9 = .ok (.aload_n 2, 1) := by decide +kernel
theorem dX0_remember_10 : decode cX0_remember 10 = .ok (.ifnonnull 4, 3) := by decide +kernel
theorem dX0_remember_13 : decode cX0_remember 13 = .ok (.return_, 1) := by decide +kernel
theorem dX0_remember_14 : decode cX0_remember 14 = .ok (.aload_n 2, 1) := by decide +kernel
theorem dX0_remember_15 : decode cX0_remember 15 = .ok (.aload_n 1, 1) := by decide +kernel
theorem dX0_remember_16 : decode cX0_remember 16 = .ok (.invokevirtual 29, 3) := by decide +kernel
theorem dX0_remember_19 : decode cX0_remember 19 = .ok (.aload_n 0, 1) := by decide +kernel
theorem dX0_remember_20 : decode cX0_remember 20 = .ok (.aload_n 0, 1) := by decide +kernel
theorem dX0_remember_21 : decode cX0_remember 21 = .ok (.getfield 21, 3) := by decide +kernel
theorem dX0_remember_24 : decode cX0_remember 24 = .ok (.iconst 1, 1) := by decide +kernel
theorem dX0_remember_25 : decode cX0_remember 25 = .ok (.iadd, 1) := by decide +kernel
theorem dX0_remember_26 : decode cX0_remember 26 = .ok (.iconst 4, 1) := by decide +kernel
theorem dX0_remember_27 : decode cX0_remember 27 = .ok (.irem, 1) := by decide +kernel
theorem dX0_remember_28 : decode cX0_remember 28 = .ok (.putfield 21, 3) := by decide +kernel
theorem dX0_remember_31 : decode cX0_remember 31 = .ok (.aload_n 0, 1) := by decide +kernel
theorem dX0_remember_32 : decode cX0_remember 32 = .ok (.aload_n 0, 1) := by decide +kernel
theorem dX0_remember_33 : decode cX0_remember 33 = .ok (.getfield 17, 3) := by decide +kernel
theorem dX0_remember_36 : decode cX0_remember 36 = .ok (.iconst 1, 1) := by decide +kernel
theorem dX0_remember_37 : decode cX0_remember 37 = .ok (.iadd, 1) := by decide +kernel
theorem dX0_remember_38 : decode cX0_remember 38 = .ok (.iconst 4, 1) := by decide +kernel
theorem dX0_remember_39 : decode cX0_remember 39 = .ok (.invokestatic 33, 3) := by decide +kernel
theorem dX0_remember_42 : decode cX0_remember 42 = .ok (.putfield 17, 3) := by decide +kernel
theorem dX0_remember_45 : decode cX0_remember 45 = .ok (.return_, 1) := by decide +kernel
theorem dX0_giveBack_0 : decode cX0_giveBack 0 = .ok (.aload_n 0, 1) := by decide +kernel
theorem dX0_giveBack_1 : decode cX0_giveBack 1 = .ok (.getfield 21, 3) := by decide +kernel
theorem dX0_giveBack_4 : decode cX0_giveBack 4 = .ok (.iconst 4, 1) := by decide +kernel
theorem dX0_giveBack_5 : decode cX0_giveBack 5 = .ok (.iadd, 1) := by decide +kernel
theorem dX0_giveBack_6 : decode cX0_giveBack 6 = .ok (.iconst 1, 1) := by decide +kernel
theorem dX0_giveBack_7 : decode cX0_giveBack 7 = .ok (.isub, 1) := by decide +kernel
theorem dX0_giveBack_8 : decode cX0_giveBack 8 = .ok (.iconst 4, 1) := by decide +kernel
theorem dX0_giveBack_9 : decode cX0_giveBack 9 = .ok (.irem, 1) := by decide +kernel
theorem dX0_giveBack_10 : decode cX0_giveBack 10 = .ok (.istore_n 2, 1) := by decide +kernel
theorem dX0_giveBack_11 : decode cX0_giveBack 11 = .ok (.aload_n 0, 1) := by decide +kernel
theorem dX0_giveBack_12 : decode cX0_giveBack 12 = .ok (.iload_n 2, 1) := by decide +kernel
theorem dX0_giveBack_13 : decode cX0_giveBack 13 = .ok (.invokevirtual 25, 3) := by decide +kernel
theorem dX0_giveBack_16 : decode cX0_giveBack 16 = .ok (.astore_n 3, 1) := by decide +kernel
theorem dX0_giveBack_17 : decode cX0_giveBack 17 = .ok (.aload_n 0, 1) := by decide +kernel
theorem dX0_giveBack_18 : decode cX0_giveBack 18 = .ok (.getfield 17, 3) := by decide +kernel
theorem dX0_giveBack_21 : decode cX0_giveBack 21 = .ok (.ifCond .eq 7, 3) := by decide +kernel
theorem dX0_giveBack_24 : decode cX0_giveBack 24 = .ok (.aload_n 3, 1) := by decide +kernel
theorem dX0_giveBack_25 : decode cX0_giveBack 25 = .ok (.ifnonnull 6, 3) := by decide +kernel
theorem dX0_giveBack_28 : decode cX0_giveBack 28 = .ok (.bipush (-5), 2) := by decide +kernel
theorem dX0_giveBack_30 : decode cX0_giveBack 30 = .ok (.ireturn, 1) := by decide +kernel
theorem dX0_giveBack_31 : decode cX0_giveBack 31 = .ok (.aload_n 1, 1) := by decide +kernel
theorem dX0_giveBack_32 : decode cX0_giveBack 32 = .ok (.aload_n 3, 1) := by decide +kernel
theorem dX0_giveBack_33 : decode cX0_giveBack 33 = .ok (.invokevirtual 29, 3) := by decide +kernel
theorem dX0_giveBack_36 : decode cX0_giveBack 36 = .ok (.aload_n 0, 1) := by decide +kernel
theorem dX0_giveBack_37 : decode cX0_giveBack 37 = .ok (.iload_n 2, 1) := by decide +kernel
theorem dX0_giveBack_38 : decode cX0_giveBack 38 = .ok (.putfield 21, 3) := by decide +kernel
theorem dX0_giveBack_41 : decode cX0_giveBack 41 = .ok (.aload_n 0, 1) := by decide +kernel
theorem dX0_giveBack_42 : decode cX0_giveBack 42 = .ok (.dup, 1) := by decide +kernel
theorem dX0_giveBack_43 : decode cX0_giveBack 43 = .ok (.getfield 17, 3) := by decide +kernel
theorem dX0_giveBack_46 : decode cX0_giveBack 46 = .ok (.iconst 1, 1) := by decide +kernel
theorem dX0_giveBack_47 : decode cX0_giveBack 47 = .ok (.isub, 1) := by decide +kernel
theorem dX0_giveBack_48 : decode cX0_giveBack 48 = .ok (.putfield 17, 3) := by decide +kernel
theorem dX0_giveBack_51 : decode cX0_giveBack 51 = .ok (.aload_n 0, 1) := by decide +kernel
theorem dX0_giveBack_52 : decode cX0_giveBack 52 = .ok (.getfield 17, 3) := by decide +kernel
theorem dX0_giveBack_55 : decode cX0_giveBack 55 = .ok (.ireturn, 1) := by decide +kernel
theorem dX0_stateAt_0 : decode cX0_stateAt 0 = .ok (.iload_n 1, 1) := by decide +kernel
theorem dX0_stateAt_1 : decode cX0_stateAt 1 = .ok (.ifCond .lt 21, 3) := by decide +kernel
theorem dX0_stateAt_4 : decode cX0_stateAt 4 = .ok (.iload_n 1, 1) := by decide +kernel
theorem dX0_stateAt_5 : decode cX0_stateAt 5 = .ok (.aload_n 0, 1) := by decide +kernel
theorem dX0_stateAt_6 : decode cX0_stateAt 6 = .ok (.getfield 11, 3) := by decide +kernel
theorem dX0_stateAt_9 : decode cX0_stateAt 9 = .ok (.arraylength, 1) := by decide +kernel
theorem dX0_stateAt_10 : decode cX0_stateAt 10 = .ok (.if_icmp .ge 12, 3) := by decide +kernel
theorem dX0_stateAt_13 : decode cX0_stateAt 13 = .ok (.aload_n 0, 1) := by decide +kernel
theorem dX0_stateAt_14 : decode cX0_stateAt 14 = .ok (.getfield 11, 3) := by decide +kernel
theorem dX0_stateAt_17 : decode cX0_stateAt 17 = .ok (.iload_n 1, 1) := by decide +kernel
theorem dX0_stateAt_18 : decode cX0_stateAt 18 = .ok (.aaload, 1) := by decide +kernel
theorem dX0_stateAt_19 : decode cX0_stateAt 19 = .ok (.goto 4, 3) := by decide +kernel
theorem dX0_stateAt_22 : decode cX0_stateAt 22 = .ok (.aconst_null, 1) := by decide +kernel
theorem dX0_stateAt_23 : decode cX0_stateAt 23 = .ok (.areturn, 1) := by decide +kernel
theorem dX1_init_0 : decode cX1_init 0 = .ok (.aload_n 0, 1) := by decide +kernel
theorem dX1_init_1 : decode cX1_init 1 = .ok (.invokespecial 3, 3) := by decide +kernel
theorem dX1_init_4 : decode cX1_init 4 = .ok (.aload_n 0, 1) := by decide +kernel
theorem dX1_init_5 : decode cX1_init 5 = .ok (.bipush 120, 2) := by decide +kernel
theorem dX1_init_7 : decode cX1_init 7 = .ok (.newarray .int, 2) := by decide +kernel
theorem dX1_init_9 : decode cX1_init 9 = .ok (.putfield 9, 3) := by decide +kernel
theorem dX1_init_12 : decode cX1_init 12 = .ok (.aload_n 0, 1) := by decide +kernel
theorem dX1_init_13 : decode cX1_init 13 = .ok (.bipush 120, 2) := by decide +kernel
theorem dX1_init_15 : decode cX1_init 15 = .ok (.newarray .int, 2) := by decide +kernel
theorem dX1_init_17 : decode cX1_init 17 = .ok (.putfield 15, 3) := by decide +kernel
theorem dX1_init_20 : decode cX1_init 20 = .ok (.aload_n 0, 1) := by decide +kernel
theorem dX1_init_21 : decode cX1_init 21 = .ok (.bipush 120, 2) := by decide +kernel
theorem dX1_init_23 : decode cX1_init 23 = .ok (.newarray .int, 2) := by decide +kernel
theorem dX1_init_25 : decode cX1_init 25 = .ok (.putfield 18, 3) := by decide +kernel
theorem dX1_init_28 : decode cX1_init 28 = .ok (.aload_n 0, 1) := by decide +kernel
theorem dX1_init_29 : decode cX1_init 29 = .ok (.bipush 9, 2) := by decide +kernel
theorem dX1_init_31 : decode cX1_init 31 = .ok (.newarray .int, 2) := by decide +kernel
theorem dX1_init_33 : decode cX1_init 33 = .ok (.putfield 21, 3) := by decide +kernel
theorem dX1_init_36 : decode cX1_init 36 = .ok (.aload_n 0, 1) := by decide +kernel
theorem dX1_init_37 : decode cX1_init 37 = .ok (.bipush 9, 2) := by decide +kernel
theorem dX1_init_39 : decode cX1_init 39 = .ok (.newarray .int, 2) := by decide +kernel
theorem dX1_init_41 : decode cX1_init 41 = .ok (.putfield 24, 3) := by decide +kernel
theorem dX1_init_44 : decode cX1_init 44 = .ok (.aload_n 0, 1) := by decide +kernel
theorem dX1_init_45 : decode cX1_init 45 = .ok (.bipush 9, 2) := by decide +kernel
theorem dX1_init_47 : decode cX1_init 47 = .ok (.newarray .int, 2) := by decide +kernel
theorem dX1_init_49 : decode cX1_init 49 = .ok (.putfield 27, 3) := by decide +kernel
theorem dX1_init_52 : decode cX1_init 52 = .ok (.aload_n 0, 1) := by decide +kernel
theorem dX1_init_53 : decode cX1_init 53 = .ok (.bipush 9, 2) := by decide +kernel
theorem dX1_init_55 : decode cX1_init 55 = .ok (.newarray .int, 2) := by decide +kernel
theorem dX1_init_57 : decode cX1_init 57 = .ok (.putfield 30, 3) := by decide +kernel
theorem dX1_init_60 : decode cX1_init 60 = .ok (.aload_n 0, 1) := by decide +kernel
theorem dX1_init_61 : decode cX1_init 61 = .ok (.bipush 9, 2) := by decide +kernel
theorem dX1_init_63 : decode cX1_init 63 = .ok (.newarray .int, 2) := by decide +kernel
theorem dX1_init_65 : decode cX1_init 65 = .ok (.putfield 33, 3) := by decide +kernel
theorem dX1_init_68 : decode cX1_init 68 = .ok (.aload_n 0, 1) := by decide +kernel
theorem dX1_init_69 : decode cX1_init 69 = .ok (.bipush 9, 2) := by decide +kernel
theorem dX1_init_71 : decode cX1_init 71 = .ok (.newarray .int, 2) := by decide +kernel
theorem dX1_init_73 : decode cX1_init 73 = .ok (.putfield 36, 3) := by decide +kernel
theorem dX1_init_76 : decode cX1_init 76 = .ok (.aload_n 0, 1) := by decide +kernel
theorem dX1_init_77 : decode cX1_init 77 = .ok (.bipush 9, 2) := by decide +kernel
theorem dX1_init_79 : decode cX1_init 79 = .ok (.newarray .int, 2) := by decide +kernel
theorem dX1_init_81 : decode cX1_init 81 = .ok (.putfield 39, 3) := by decide +kernel
theorem dX1_init_84 : decode cX1_init 84 = .ok (.aload_n 0, 1) := by decide +kernel
theorem dX1_init_85 : decode cX1_init 85 = .ok (.bipush 9, 2) := by decide +kernel
theorem dX1_init_87 : decode cX1_init 87 = .ok (.newarray .int, 2) := by decide +kernel
theorem dX1_init_89 : decode cX1_init 89 = .ok (.putfield 42, 3) := by decide +kernel
theorem dX1_init_92 : decode cX1_init 92 = .ok (.aload_n 0, 1) := by decide +kernel
theorem dX1_init_93 : decode cX1_init 93 = .ok (.bipush 9, 2) := by decide +kernel
theorem dX1_init_95 : decode cX1_init 95 = .ok (.newarray .int, 2) := by decide +kernel
theorem dX1_init_97 : decode cX1_init 97 = .ok (.putfield 45, 3) := by decide +kernel
theorem dX1_init_100 : decode cX1_init 100 = .ok (.aload_n 0, 1) := by decide +kernel
theorem dX1_init_101 : decode cX1_init 101 = .ok (.bipush 9, 2) := by decide +kernel
theorem dX1_init_103 : decode cX1_init 103 = .ok (.newarray .int, 2) := by decide +kernel
theorem dX1_init_105 : decode cX1_init 105 = .ok (.putfield 48, 3) := by decide +kernel
theorem dX1_init_108 : decode cX1_init 108 = .ok (.aload_n 0, 1) := by decide +kernel
theorem dX1_init_109 : decode cX1_init 109 = .ok (.bipush 9, 2) := by decide +kernel
theorem dX1_init_111 : decode cX1_init 111 = .ok (.bipush 9, 2) := by decide +kernel
theorem dX1_init_113 : decode cX1_init 113 = .ok (.multianewarray 51 2, 4) := by decide +kernel
theorem dX1_init_117 : decode cX1_init 117 = .ok (.putfield 53, 3) := by decide +kernel
theorem dX1_init_120 : decode cX1_init 120 = .ok (.aload_n 0, 1) := by decide +kernel
theorem dX1_init_121 : decode cX1_init 121 = .ok (.getstatic 56, 3) := by decide +kernel
theorem dX1_init_124 : decode cX1_init 124 = .ok (.invokevirtual 59, 3) := by decide +kernel
theorem dX1_init_127 : decode cX1_init 127 = .ok (.checkcast 60, 3) := by decide +kernel
theorem dX1_init_130 : decode cX1_init 130 = .ok (.putfield 64, 3) := by decide +kernel
theorem dX1_init_133 : decode cX1_init 133 = .ok (.aload_n 0, 1) := by decide +kernel
theorem dX1_init_134 : decode cX1_init 134 = .ok (.iconst 0, 1) := by decide +kernel
theorem dX1_init_135 : decode cX1_init 135 = .ok (.putfield 67, 3) := by decide +kernel
theorem dX1_init_138 : decode cX1_init 138 = .ok (.aload_n 0, 1) := by decide +kernel
theorem dX1_init_139 : decode cX1_init 139 = .ok (.iconst 0, 1) := by decide +kernel
theorem dX1_init_140 : decode cX1_init 140 = .ok (.putfield 71, 3) := by decide +kernel
theorem dX1_init_143 : decode cX1_init 143 = .ok (.aload_n 0, 1) := by decide +kernel
theorem dX1_init_144 : decode cX1_init 144 = .ok (.getfield 9, 3) := by decide +kernel
theorem dX1_init_147 : decode cX1_init 147 = .ok (.iconst 4, 1) := by decide +kernel
theorem dX1_init_148 : decode cX1_init 148 = .ok (.invokestatic 74, 3) := by decide +kernel
theorem dX1_init_151 : decode cX1_init 151 = .ok (.aload_n 0, 1) := by decide +kernel
theorem dX1_init_152 : decode cX1_init 152 = .ok (.getfield 15, 3) := by decide +kernel
theorem dX1_init_155 : decode cX1_init 155 = .ok (.bipush (-5), 2) := by decide +kernel
theorem dX1_init_157 : decode cX1_init 157 = .ok (.invokestatic 74, 3) := by decide +kernel
theorem dX1_init_160 : decode cX1_init 160 = .ok (.aload_n 0, 1) := by decide +kernel
theorem dX1_init_161 : decode cX1_init 161 = .ok (.getfield 18, 3) := by decide +kernel
theorem dX1_init_164 : decode cX1_init 164 = .ok (.bipush (-5), 2) := by decide +kernel
theorem dX1_init_166 : decode cX1_init 166 = .ok (.invokestatic 74, 3) := by decide +kernel
theorem dX1_init_169 : decode cX1_init 169 = .ok (.aload_n 0, 1) := by decide +kernel
theorem dX1_init_170 : decode cX1_init 170 = .ok (.getfield 33, 3) := by decide +kernel
theorem dX1_init_173 : decode cX1_init 173 = .ok (.bipush (-5), 2) := by decide +kernel
theorem dX1_init_175 : decode cX1_init 175 = .ok (.invokestatic 74, 3) := by decide +kernel
theorem dX1_init_178 : decode cX1_init 178 = .ok (.aload_n 0, 1) := by decide +kernel
theorem dX1_init_179 : decode cX1_init 179 = .ok (.getfield 45, 3) := by decide +kernel
theorem dX1_init_182 : decode cX1_init 182 = .ok (.bipush (-5), 2) := by decide +kernel
theorem dX1_init_184 : decode cX1_init 184 = .ok (.invokestatic 74, 3) := by decide +kernel
theorem dX1_init_187 : decode cX1_init 187 = .ok (.return_, 1) := by decide +kernel
theorem dX1_copyFrom_0 : decode cX1_copyFrom 0 = .ok (.aload_n 1, 1) := by decide +kernel
theorem dX1_copyFrom_1 : decode cX1_copyFrom 1 = .ok (.getfield 9, 3) := by decide +kernel
theorem dX1_copyFrom_4 : decode cX1_copyFrom 4 = .ok (.aload_n 0, 1) := by decide +kernel
theorem dX1_copyFrom_5 : decode cX1_copyFrom 5 = .ok (.getfield 9, 3) := by decide +kernel
theorem dX1_copyFrom_8 : decode cX1_copyFrom 8 = .ok (.invokestatic 80, 3) := by decide +kernel
theorem dX1_copyFrom_11 : decode cX1_copyFrom 11 = .ok (.aload_n 1, 1) := by decide +kernel
theorem dX1_copyFrom_12 : decode cX1_copyFrom 12 = .ok (.getfield 15, 3) := by decide +kernel
theorem dX1_copyFrom_15 : decode cX1_copyFrom 15 = .ok (.aload_n 0, 1) := by decide +kernel
theorem dX1_copyFrom_16 : decode cX1_copyFrom 16 = .ok (.getfield 15, 3) := by decide +kernel
theorem dX1_copyFrom_19 : decode cX1_copyFrom 19 = .ok (.invokestatic 80, 3) := by decide +kernel
theorem dX1_copyFrom_22 : decode cX1_copyFrom 22 = .ok (.aload_n 1, 1) := by decide +kernel
theorem dX1_copyFrom_23 : decode cX1_copyFrom 23 = .ok (.getfield 18, 3) := by decide +kernel
theorem dX1_copyFrom_26 : decode cX1_copyFrom 26 = .ok (.aload_n 0, 1) := by decide +kernel
theorem dX1_copyFrom_27 : decode cX1_copyFrom 27 = .ok (.getfield 18, 3) := by decide +kernel
theorem dX1_copyFrom_30 : decode cX1_copyFrom 30 = .ok (.invokestatic 80, 3) := by decide +kernel
theorem dX1_copyFrom_33 : decode cX1_copyFrom 33 = .ok (.aload_n 1, 1) := by decide +kernel
theorem dX1_copyFrom_34 : decode cX1_copyFrom 34 = .ok (.getfield 21, 3) := by decide +kernel
theorem dX1_copyFrom_37 : decode cX1_copyFrom 37 = .ok (.aload_n 0, 1) := by decide +kernel
theorem dX1_copyFrom_38 : decode cX1_copyFrom 38 = .ok (.getfield 21, 3) := by decide +kernel
theorem dX1_copyFrom_41 : decode cX1_copyFrom 41 = .ok (.invokestatic 80, 3) := by decide +kernel
theorem dX1_copyFrom_44 : decode cX1_copyFrom 44 = .ok (.aload_n 1, 1) := by decide +kernel
theorem dX1_copyFrom_45 : decode cX1_copyFrom 45 = .ok (.getfield 24, 3) := by decide +kernel
theorem dX1_copyFrom_48 : decode cX1_copyFrom 48 = .ok (.aload_n 0, 1) := by decide +kernel
theorem dX1_copyFrom_49 : decode cX1_copyFrom 49 = .ok (.getfield 24, 3) := by decide +kernel
theorem dX1_copyFrom_52 : decode cX1_copyFrom 52 = .ok (.invokestatic 80, 3) := by decide +kernel
theorem dX1_copyFrom_55 : decode cX1_copyFrom 55 = .ok (.aload_n 1, 1) := by decide +kernel
theorem dX1_copyFrom_56 : decode cX1_copyFrom 56 = .ok (.getfield 27, 3) := by decide +kernel
theorem dX1_copyFrom_59 : decode cX1_copyFrom 59 = .ok (.aload_n 0, 1) := by decide +kernel
theorem dX1_copyFrom_60 : decode cX1_copyFrom 60 = .ok (.getfield 27, 3) := by decide +kernel
theorem dX1_copyFrom_63 : decode cX1_copyFrom 63 = .ok (.invokestatic 80, 3) := by decide +kernel
theorem dX1_copyFrom_66 : decode cX1_copyFrom 66 = .ok (.aload_n 1, 1) := by decide +kernel
theorem dX1_copyFrom_67 : decode cX1_copyFrom 67 = .ok (.getfield 30, 3) := by decide +kernel
theorem dX1_copyFrom_70 : decode cX1_copyFrom 70 = .ok (.aload_n 0, 1) := by decide +kernel
theorem dX1_copyFrom_71 : decode cX1_copyFrom 71 = .ok (.getfield 30, 3) := by decide +kernel
theorem dX1_copyFrom_74 : decode cX1_copyFrom 74 = .ok (.invokestatic 80, 3) := by decide +kernel
theorem dX1_copyFrom_77 : decode cX1_copyFrom 77 = .ok (.aload_n 1, 1) := by decide +kernel
theorem dX1_copyFrom_78 : decode cX1_copyFrom 78 = .ok (.getfield 33, 3) := by decide +kernel
theorem dX1_copyFrom_81 : decode cX1_copyFrom 81 = .ok (.aload_n 0, 1) := by decide +kernel
theorem dX1_copyFrom_82 : decode cX1_copyFrom 82 = .ok (.getfield 33, 3) := by decide +kernel
theorem dX1_copyFrom_85 : decode cX1_copyFrom 85 = .ok (.invokestatic 80, 3) := by decide +kernel
theorem dX1_copyFrom_88 : decode cX1_copyFrom 88 = .ok (.aload_n 1, 1) := by decide +kernel
theorem dX1_copyFrom_89 : decode cX1_copyFrom 89 = .ok (.getfield 36, 3) := by decide +kernel
theorem dX1_copyFrom_92 : decode cX1_copyFrom 92 = .ok (.aload_n 0, 1) := by decide +kernel
theorem dX1_copyFrom_93 : decode cX1_copyFrom 93 = .ok (.getfield 36, 3) := by decide +kernel
theorem dX1_copyFrom_96 : decode cX1_copyFrom 96 = .ok (.invokestatic 80, 3) := by decide +kernel
theorem dX1_copyFrom_99 : decode cX1_copyFrom 99 = .ok (.aload_n 1, 1) := by decide +kernel
theorem dX1_copyFrom_100 : decode cX1_copyFrom 100 = .ok (.getfield 39, 3) := by decide +kernel
theorem dX1_copyFrom_103 : decode cX1_copyFrom 103 = .ok (.aload_n 0, 1) := by decide +kernel
theorem dX1_copyFrom_104 : decode cX1_copyFrom 104 = .ok (.getfield 39, 3) := by decide +kernel
theorem dX1_copyFrom_107 : decode cX1_copyFrom 107 = .ok (.invokestatic 80, 3) := by decide +kernel
theorem dX1_copyFrom_110 : decode cX1_copyFrom 110 = .ok (.aload_n 1, 1) := by decide +kernel
theorem dX1_copyFrom_111 : decode cX1_copyFrom 111 = .ok (.getfield 42, 3) := by decide +kernel
theorem dX1_copyFrom_114 : decode cX1_copyFrom 114 = .ok (.aload_n 0, 1) := by decide +kernel
theorem dX1_copyFrom_115 : decode cX1_copyFrom 115 = .ok (.getfield 42, 3) := by decide +kernel
theorem dX1_copyFrom_118 : decode cX1_copyFrom 118 = .ok (.invokestatic 80, 3) := by decide +kernel
theorem dX1_copyFrom_121 : decode cX1_copyFrom 121 = .ok (.aload_n 1, 1) := by decide +kernel
theorem dX1_copyFrom_122 : decode cX1_copyFrom 122 = .ok (.getfield 45, 3) := by decide +kernel
theorem dX1_copyFrom_125 : decode cX1_copyFrom 125 = .ok (.aload_n 0, 1) := by decide +kernel
theorem dX1_copyFrom_126 : decode cX1_copyFrom 126 = .ok (.getfield 45, 3) := by decide +kernel
theorem dX1_copyFrom_129 : decode cX1_copyFrom 129 = .ok (.invokestatic 80, 3) := by decide +kernel
theorem dX1_copyFrom_132 : decode cX1_copyFrom 132 = .ok (.aload_n 1, 1) := by decide +kernel
theorem dX1_copyFrom_133 : decode cX1_copyFrom 133 = .ok (.getfield 48, 3) := by decide +kernel
theorem dX1_copyFrom_136 : decode cX1_copyFrom 136 = .ok (.aload_n 0, 1) := by decide +kernel
theorem dX1_copyFrom_137 : decode cX1_copyFrom 137 = .ok (.getfield 48, 3) := by decide +kernel
theorem dX1_copyFrom_140 : decode cX1_copyFrom 140 = .ok (.invokestatic 80, 3) := by decide +kernel
theorem dX1_copyFrom_143 : decode cX1_copyFrom 143 = .ok (.iconst 0, 1) := by decide +kernel
theorem dX1_copyFrom_144 : decode cX1_copyFrom 144 = .ok (.istore_n 2, 1) := by decide +kernel
theorem dX1_copyFrom_145 : decode cX1_copyFrom 145 = .ok (.iload_n 2, 1) := by decide +kernel
theorem dX1_copyFrom_146 : decode cX1_copyFrom 146 = .ok (.bipush 9, 2) := by decide +kernel
theorem dX1_copyFrom_148 : decode cX1_copyFrom 148 = .ok (.if_icmp .ge 24, 3) := by decide +kernel
theorem dX1_copyFrom_151 : decode cX1_copyFrom 151 = .ok (.aload_n 1, 1) := by decide +kernel
theorem dX1_copyFrom_152 : decode cX1_copyFrom 152 = .ok (.getfield 53, 3) := by decide +kernel
theorem dX1_copyFrom_155 : decode cX1_copyFrom 155 = .ok (.iload_n 2, 1) := by decide +kernel
theorem dX1_copyFrom_156 : decode cX1_copyFrom 156 = .ok (.aaload, 1) := by decide +kernel
theorem dX1_copyFrom_157 : decode cX1_copyFrom 157 = .ok (.aload_n 0, 1) := by decide +kernel
theorem dX1_copyFrom_158 : decode cX1_copyFrom 158 = .ok (.getfield 53, 3) := by decide +kernel
theorem dX1_copyFrom_161 : decode cX1_copyFrom 161 = .ok (.iload_n 2, 1) := by decide +kernel
theorem dX1_copyFrom_162 : decode cX1_copyFrom 162 = .ok (.aaload, 1) := by decide +kernel
theorem dX1_copyFrom_163 : decode cX1_copyFrom 163 = .ok (.invokestatic 80, 3) := by decide +kernel
theorem dX1_copyFrom_166 : decode cX1_copyFrom 166 = .ok (.iinc 2 1, 3) := by decide +kernel
theorem dX1_copyFrom_169 : decode cX1_copyFrom 169 = .ok (.goto (-24), 3) := by decide +kernel
theorem dX1_copyFrom_172 : decode cX1_copyFrom 172 = .ok (.aload_n 1, 1) := by decide +kernel
theorem dX1_copyFrom_173 : decode cX1_copyFrom 173 = .ok (.getfield 64, 3) := by decide +kernel
theorem dX1_copyFrom_176 : decode cX1_copyFrom 176 = .ok (.aload_n 0, 1) := by decide +kernel
theorem dX1_copyFrom_177 : decode cX1_copyFrom 177 = .ok (.getfield 64, 3) := by decide +kernel
theorem dX1_copyFrom_180 : decode cX1_copyFrom 180 = .ok (.invokestatic 80, 3) := by decide +kernel
theorem dX1_copyFrom_183 : decode cX1_copyFrom 183 = .ok (.aload_n 0, 1) := by decide +kernel
theorem dX1_copyFrom_184 : decode cX1_copyFrom 184 = .ok (.aload_n 1, 1) := by decide +kernel
theorem dX1_copyFrom_185 : decode cX1_copyFrom 185 = .ok (.getfield 67, 3) := by decide +kernel
theorem dX1_copyFrom_188 : decode cX1_copyFrom 188 = .ok (.putfield 67, 3) := by decide +kernel
theorem dX1_copyFrom_191 : decode cX1_copyFrom 191 = .ok (.aload_n 0, 1) := by decide +kernel
theorem dX1_copyFrom_192 : decode cX1_copyFrom 192 = .ok (.aload_n 1, 1) := by decide +kernel
theorem dX1_copyFrom_193 : decode cX1_copyFrom 193 = .ok (.getfield 71, 3) := by decide +kernel
theorem dX1_copyFrom_196 : decode cX1_copyFrom 196 = .ok (.putfield 71, 3) := by decide +kernel
theorem dX1_copyFrom_199 : decode cX1_copyFrom 199 = .ok (.return_, 1) := by decide +kernel
theorem dX1_placeSnail_0 : decode cX1_placeSnail 0 = .ok (.iload_n 1, 1) := by decide +kernel
theorem dX1_placeSnail_1 : decode cX1_placeSnail 1 = .ok (.ifCond .lt 9, 3) := by decide +kernel
theorem dX1_placeSnail_4 : decode cX1_placeSnail 4 = .ok (.iload_n 1, 1) := by decide +kernel
theorem dX1_placeSnail_5 : decode cX1_placeSnail 5 = .ok (.bipush 6, 2) := by decide +kernel
theorem dX1_placeSnail_7 : decode cX1_placeSnail 7 = .ok (.if_icmp .lt 5, 3) := by decide +kernel
theorem dX1_placeSnail_10 : decode cX1_placeSnail 10 = .ok (.iconst (-1), 1) := by decide +kernel
theorem dX1_placeSnail_11 : decode cX1_placeSnail 11 = .ok (.ireturn, 1) := by decide +kernel
theorem dX1_placeSnail_12 : decode cX1_placeSnail 12 = .ok (.iload_n 2, 1) := by decide +kernel
theorem dX1_placeSnail_13 : decode cX1_placeSnail 13 = .ok (.ifCond .lt 9, 3) := by decide +kernel
theorem dX1_placeSnail_16 : decode cX1_placeSnail 16 = .ok (.iload_n 2, 1) := by decide +kernel
theorem dX1_placeSnail_17 : decode cX1_placeSnail 17 = .ok (.bipush 99, 2) := by decide +kernel
theorem dX1_placeSnail_19 : decode cX1_placeSnail 19 = .ok (.if_icmp .le 6, 3) := by decide +kernel
theorem dX1_placeSnail_22 : decode cX1_placeSnail 22 = .ok (.bipush (-2), 2) := by decide +kernel
theorem dX1_placeSnail_24 : decode cX1_placeSnail 24 = .ok (.ireturn, 1) := by decide +kernel
theorem dX1_placeSnail_25 : decode cX1_placeSnail 25 = .ok (.aload_n 0, 1) := by decide +kernel
theorem dX1_placeSnail_26 : decode cX1_placeSnail 26 = .ok (.iload_n 1, 1) := by decide +kernel
theorem dX1_placeSnail_27 : decode cX1_placeSnail 27 = .ok (.iconst 0, 1) := by decide +kernel
theorem dX1_placeSnail_28 : decode cX1_placeSnail 28 = .ok (.invokevirtual 84, 3) := by decide +kernel
theorem dX1_placeSnail_31 : decode cX1_placeSnail 31 = .ok (.bipush (-5), 2) := by decide +kernel
theorem dX1_placeSnail_33 : decode cX1_placeSnail 33 = .ok (.if_icmp .eq 6, 3) := by decide +kernel
theorem dX1_placeSnail_36 : decode cX1_placeSnail 36 = .ok (.bipush (-4), 2) := by decide +kernel
theorem dX1_placeSnail_38 : decode cX1_placeSnail 38 = .ok (.ireturn, 1) := by decide +kernel
theorem dX1_placeSnail_39 : decode cX1_placeSnail 39 = .ok (.aload_n 0, 1) := by decide +kernel
theorem dX1_placeSnail_40 : decode cX1_placeSnail 40 = .ok (.getfield 67, 3) := by decide +kernel
theorem dX1_placeSnail_43 : decode cX1_placeSnail 43 = .ok (.bipush 8, 2) := by decide +kernel
theorem dX1_placeSnail_45 : decode cX1_placeSnail 45 = .ok (.if_icmp .ge 12, 3) := by decide +kernel
theorem dX1_placeSnail_48 : decode cX1_placeSnail 48 = .ok (.aload_n 0, 1) := by decide +kernel
theorem dX1_placeSnail_49 : decode cX1_placeSnail 49 = .ok (.iload_n 1, 1) := by decide +kernel
theorem dX1_placeSnail_50 : decode cX1_placeSnail 50 = .ok (.iload_n 2, 1) := by decide +kernel
theorem dX1_placeSnail_51 : decode cX1_placeSnail 51 = .ok (.invokevirtual 88, 3) := by decide +kernel
theorem dX1_placeSnail_54 : decode cX1_placeSnail 54 = .ok (.goto 5, 3) := by decide +kernel
theorem dX1_placeSnail_57 : decode cX1_placeSnail 57 = .ok (.bipush (-3), 2) := by decide +kernel
theorem dX1_placeSnail_59 : decode cX1_placeSnail 59 = .ok (.ireturn, 1) := by decide +kernel
theorem dX1_addSnail_0 : decode cX1_addSnail 0 = .ok (.aload_n 0, 1) := by decide +kernel
theorem dX1_addSnail_1 : decode cX1_addSnail 1 = .ok (.getfield 67, 3) := by decide +kernel
theorem dX1_addSnail_4 : decode cX1_addSnail 4 = .ok (.istore_n 3, 1) := by decide +kernel
theorem dX1_addSnail_5 : decode cX1_addSnail 5 = .ok (.iload_n 3, 1) := by decide +kernel
theorem dX1_addSnail_6 : decode cX1_addSnail 6 = .ok (.ifCond .lt 9, 3) := by decide +kernel
theorem dX1_addSnail_9 : decode cX1_addSnail 9 = .ok (.iload_n 3, 1) := by decide +kernel
theorem dX1_addSnail_10 : decode cX1_addSnail 10 = .ok (.bipush 9, 2) := by decide +kernel
theorem dX1_addSnail_12 : decode cX1_addSnail 12 = .ok (.if_icmp .lt 6, 3) := by decide +kernel
theorem dX1_addSnail_15 : decode cX1_addSnail 15 = .ok (.bipush (-3), 2) := by decide +kernel
theorem dX1_addSnail_17 : decode cX1_addSnail 17 = .ok (.ireturn, 1) := by decide +kernel
theorem dX1_addSnail_18 : decode cX1_addSnail 18 = .ok (.aload_n 0, 1) := by decide +kernel
theorem dX1_addSnail_19 : decode cX1_addSnail 19 = .ok (.getfield 21, 3) := by decide +kernel
theorem dX1_addSnail_22 : decode cX1_addSnail 22 = .ok (.iload_n 3, 1) := by decide +kernel
theorem dX1_addSnail_23 : decode cX1_addSnail 23 = .ok (.iload_n 1, 1) := by decide +kernel
theorem dX1_addSnail_24 : decode cX1_addSnail 24 = .ok (.iastore, 1) := by decide +kernel
theorem dX1_addSnail_25 : decode cX1_addSnail 25 = .ok (.aload_n 0, 1) := by decide +kernel
theorem dX1_addSnail_26 : decode cX1_addSnail 26 = .ok (.getfield 24, 3) := by decide +kernel
theorem dX1_addSnail_29 : decode cX1_addSnail 29 = .ok (.iload_n 3, 1) := by decide +kernel
theorem dX1_addSnail_30 : decode cX1_addSnail 30 = .ok (.iconst 0, 1) := by decide +kernel
theorem dX1_addSnail_31 : decode cX1_addSnail 31 = .ok (.iastore, 1) := by decide +kernel
theorem dX1_addSnail_32 : decode cX1_addSnail 32 = .ok (.aload_n 0, 1) := by decide +kernel
theorem dX1_addSnail_33 : decode cX1_addSnail 33 = .ok (.getfield 27, 3) := by decide +kernel
theorem dX1_addSnail_36 : decode cX1_addSnail 36 = .ok (.iload_n 3, 1) := by decide +kernel
theorem dX1_addSnail_37 : decode cX1_addSnail 37 = .ok (.iload_n 2, 1) := by decide +kernel
theorem dX1_addSnail_38 : decode cX1_addSnail 38 = .ok (.iastore, 1) := by decide +kernel
theorem dX1_addSnail_39 : decode cX1_addSnail 39 = .ok (.aload_n 0, 1) := by decide +kernel
theorem dX1_addSnail_40 : decode cX1_addSnail 40 = .ok (.dup, 1) := by decide +kernel
theorem dX1_addSnail_41 : decode cX1_addSnail 41 = .ok (.getfield 67, 3) := by decide +kernel
theorem dX1_addSnail_44 : decode cX1_addSnail 44 = .ok (.iconst 1, 1) := by decide +kernel
theorem dX1_addSnail_45 : decode cX1_addSnail 45 = .ok (.iadd, 1) := by decide +kernel
theorem dX1_addSnail_46 : decode cX1_addSnail 46 = .ok (.putfield 67, 3) := by decide +kernel
theorem dX1_addSnail_49 : decode cX1_addSnail 49 = .ok (.iload_n 3, 1) := by decide +kernel
theorem dX1_addSnail_50 : decode cX1_addSnail 50 = .ok (.ireturn, 1) := by decide +kernel
theorem dX1_removeSnail_0 : decode cX1_removeSnail 0 = .ok (.aload_n 0, 1) := by decide +kernel
theorem dX1_removeSnail_1 : decode cX1_removeSnail 1 = .ok (.iload_n 1, 1) := by decide +kernel
theorem dX1_removeSnail_2 : decode cX1_removeSnail 2 = .ok (.invokevirtual 91, 3) := by decide +kernel
theorem dX1_removeSnail_5 : decode cX1_removeSnail 5 = .ok (.ifCond .ne 5, 3) := by decide +kernel
theorem dX1_removeSnail_8 : decode cX1_removeSnail 8 = .ok (.iconst (-1), 1) := by decide +kernel
theorem dX1_removeSnail_9 : decode cX1_removeSnail 9 = .ok (.ireturn, 1) := by decide +kernel
theorem dX1_removeSnail_10 : decode cX1_removeSnail 10 = .ok (.aload_n 0, 1) := by decide +kernel
theorem dX1_removeSnail_11 : decode cX1_removeSnail 11 = .ok (.iload_n 1, 1) := by decide +kernel
theorem dX1_removeSnail_12 : decode cX1_removeSnail 12 = .ok (.invokevirtual 95, 3) := by decide +kernel
theorem dX1_removeSnail_15 : decode cX1_removeSnail 15 = .ok (.ifCond .ne 6, 3) := by decide +kernel
theorem dX1_removeSnail_18 : decode cX1_removeSnail 18 = .ok (.bipush (-4), 2) := by decide +kernel
theorem dX1_removeSnail_20 : decode cX1_removeSnail 20 = .ok (.ireturn, 1) := by decide +kernel
theorem dX1_removeSnail_21 : decode cX1_removeSnail 21 = .ok (.aload_n 0, 1) := by decide +kernel
theorem dX1_removeSnail_22 : decode cX1_removeSnail 22 = .ok (.getfield 30, 3) := by decide +kernel
theorem dX1_removeSnail_25 : decode cX1_removeSnail 25 = .ok (.iload_n 1, 1) := by decide +kernel
theorem dX1_removeSnail_26 : decode cX1_removeSnail 26 = .ok (.iconst 2, 1) := by decide +kernel
theorem dX1_removeSnail_27 : decode cX1_removeSnail 27 = .ok (.iastore, 1) := by decide +kernel
theorem dX1_removeSnail_28 : decode cX1_removeSnail 28 = .ok (.aload_n 0, 1) := by decide +kernel
theorem dX1_removeSnail_29 : decode cX1_removeSnail 29 = .ok (.getfield 24, 3) := by decide +kernel
theorem dX1_removeSnail_32 : decode cX1_removeSnail 32 = .ok (.iload_n 1, 1) := by decide +kernel
theorem dX1_removeSnail_33 : decode cX1_removeSnail 33 = .ok (.iaload, 1) := by decide +kernel
theorem dX1_removeSnail_34 : decode cX1_removeSnail 34 = .ok (.ireturn, 1) := by decide +kernel
theorem dX1_changeFrost_0 : decode cX1_changeFrost 0 = .ok (.iload_n 1, 1) := by decide +kernel
theorem dX1_changeFrost_1 : decode cX1_changeFrost 1 = .ok (.iload_n 2, 1) := by decide +kernel
theorem dX1_changeFrost_2 : decode cX1_changeFrost 2 = .ok (.invokestatic 98, 3) := by decide +kernel
theorem dX1_changeFrost_5 : decode cX1_changeFrost 5 = .ok (.istore 4, 2) := by decide +kernel
theorem dX1_changeFrost_7 : decode cX1_changeFrost 7 = .ok (.iload 4, 2) := by decide +kernel
theorem dX1_changeFrost_9 : decode cX1_changeFrost 9 = .ok (.iconst (-1), 1) := by decide +kernel
theorem dX1_changeFrost_10 : decode cX1_changeFrost 10 = .ok (.if_icmp .ne 5, 3) := by decide +kernel
theorem dX1_changeFrost_13 : decode cX1_changeFrost 13 = .ok (.iconst (-1), 1) := by decide +kernel
theorem dX1_changeFrost_14 : decode cX1_changeFrost 14 = .ok (.ireturn, 1) := by decide +kernel
theorem dX1_changeFrost_15 : decode cX1_changeFrost 15 = .ok (.iload_n 3, 1) := by decide +kernel
theorem dX1_changeFrost_16 : decode cX1_changeFrost 16 = .ok (.ifCond .lt 9, 3) := by decide +kernel
theorem dX1_changeFrost_19 : decode cX1_changeFrost 19 = .ok (.iload_n 3, 1) := by decide +kernel
theorem dX1_changeFrost_20 : decode cX1_changeFrost 20 = .ok (.bipush 9, 2) := by decide +kernel
theorem dX1_changeFrost_22 : decode cX1_changeFrost 22 = .ok (.if_icmp .le 6, 3) := by decide +kernel
theorem dX1_changeFrost_25 : decode cX1_changeFrost 25 = .ok (.bipush (-2), 2) := by decide +kernel
theorem dX1_changeFrost_27 : decode cX1_changeFrost 27 = .ok (.ireturn, 1) := by decide +kernel
theorem dX1_changeFrost_28 : decode cX1_changeFrost 28 = .ok (.aload_n 0, 1) := by decide +kernel
theorem dX1_changeFrost_29 : decode cX1_changeFrost 29 = .ok (.getfield 9, 3) := by decide +kernel
theorem dX1_changeFrost_32 : decode cX1_changeFrost 32 = .ok (.iload 4, 2) := by decide +kernel
theorem dX1_changeFrost_34 : decode cX1_changeFrost 34 = .ok (.iaload, 1) := by decide +kernel
theorem dX1_changeFrost_35 : decode cX1_changeFrost 35 = .ok (.istore 5, 2) := by decide +kernel
theorem dX1_changeFrost_37 : decode cX1_changeFrost 37 = .ok (.iload 5, 2) := by decide +kernel
theorem dX1_changeFrost_39 : decode cX1_changeFrost 39 = .ok (.iload_n 3, 1) := by decide +kernel
theorem dX1_changeFrost_40 : decode cX1_changeFrost 40 = .ok (.if_icmp .ne 18, 3) := by decide +kernel
theorem dX1_changeFrost_43 : decode cX1_changeFrost 43 = .ok (.aload_n 0, 1) := by decide +kernel
theorem dX1_changeFrost_44 : decode cX1_changeFrost 44 = .ok (.getfield 15, 3) := by decide +kernel
theorem dX1_changeFrost_47 : decode cX1_changeFrost 47 = .ok (.iload 4, 2) := by decide +kernel
theorem dX1_changeFrost_49 : decode cX1_changeFrost 49 = .ok (.iaload, 1) := by decide +kernel
theorem dX1_changeFrost_50 : decode cX1_changeFrost 50 = .ok (.bipush (-5), 2) := by decide +kernel
theorem dX1_changeFrost_52 : decode cX1_changeFrost 52 = .ok (.if_icmp .ne 6, 3) := by decide +kernel
theorem dX1_changeFrost_55 : decode cX1_changeFrost 55 = .ok (.bipush (-5), 2) := by decide +kernel
theorem dX1_changeFrost_57 : decode cX1_changeFrost 57 = .ok (.ireturn, 1) := by decide +kernel
theorem dX1_changeFrost_58 : decode cX1_changeFrost 58 = .ok (.aload_n 0, 1) := by decide +kernel
theorem dX1_changeFrost_59 : decode cX1_changeFrost 59 = .ok (.getfield 9, 3) := by decide +kernel
theorem dX1_changeFrost_62 : decode cX1_changeFrost 62 = .ok (.iload 4, 2) := by decide +kernel
theorem dX1_changeFrost_64 : decode cX1_changeFrost 64 = .ok (.iload_n 3, 1) := by decide +kernel
theorem dX1_changeFrost_65 : decode cX1_changeFrost 65 = .ok (.iastore, 1) := by decide +kernel
theorem dX1_changeFrost_66 : decode cX1_changeFrost 66 = .ok (.aload_n 0, 1) := by decide +kernel
theorem dX1_changeFrost_67 : decode cX1_changeFrost 67 = .ok (.iload 4, 2) := by decide +kernel
theorem dX1_changeFrost_69 : decode cX1_changeFrost 69 = .ok (.invokevirtual 101, 3) := by decide +kernel
theorem dX1_changeFrost_72 : decode cX1_changeFrost 72 = .ok (.iload 5, 2) := by decide +kernel
theorem dX1_changeFrost_74 : decode cX1_changeFrost 74 = .ok (.ireturn, 1) := by decide +kernel
theorem dX1_changeSetting_0 : decode cX1_changeSetting 0 = .ok (.iload_n 1, 1) := by decide +kernel
theorem dX1_changeSetting_1 : decode cX1_changeSetting 1 = .ok (.ifCond .lt 12, 3) := by decide +kernel
theorem dX1_changeSetting_4 : decode cX1_changeSetting 4 = .ok (.iload_n 1, 1) := by decide +kernel
theorem dX1_changeSetting_5 : decode cX1_changeSetting 5 = .ok (.aload_n 0, 1) := by decide +kernel
theorem dX1_changeSetting_6 : decode cX1_changeSetting 6 = .ok (.getfield 64, 3) := by decide +kernel
theorem dX1_changeSetting_9 : decode cX1_changeSetting 9 = .ok (.arraylength, 1) := by decide +kernel
theorem dX1_changeSetting_10 : decode cX1_changeSetting 10 = .ok (.if_icmp .lt 5, 3) := by decide +kernel
theorem dX1_changeSetting_13 : decode cX1_changeSetting 13 = .ok (.iconst (-1), 1) := by decide +kernel
theorem dX1_changeSetting_14 : decode cX1_changeSetting 14 = .ok (.ireturn, 1) := by decide +kernel
theorem dX1_changeSetting_15 : decode cX1_changeSetting 15 = .ok (.iload_n 2, 1) := by decide +kernel
theorem dX1_changeSetting_16 : decode cX1_changeSetting 16 = .ok (.getstatic 105, 3) := by decide +kernel
theorem dX1_changeSetting_19 : decode cX1_changeSetting 19 = .ok (.iload_n 1, 1) := by decide +kernel
theorem dX1_changeSetting_20 : decode cX1_changeSetting 20 = .ok (.iaload, 1) := by decide +kernel
theorem dX1_changeSetting_21 : decode cX1_changeSetting 21 = .ok (.if_icmp .lt 12, 3) := by decide +kernel
theorem dX1_changeSetting_24 : decode cX1_changeSetting 24 = .ok (.iload_n 2, 1) := by decide +kernel
theorem dX1_changeSetting_25 : decode cX1_changeSetting 25 = .ok (.getstatic 108, 3) := by decide +kernel
theorem dX1_changeSetting_28 : decode cX1_changeSetting 28 = .ok (.iload_n 1, 1) := by decide +kernel
theorem dX1_changeSetting_29 : decode cX1_changeSetting 29 = .ok (.iaload, 1) := by decide +kernel
theorem dX1_changeSetting_30 : decode cX1_changeSetting 30 = .ok (.if_icmp .le 6, 3) := by decide +kernel
theorem dX1_changeSetting_33 : decode cX1_changeSetting 33 = .ok (.bipush (-2), 2) := by decide +kernel
theorem dX1_changeSetting_35 : decode cX1_changeSetting 35 = .ok (.ireturn, 1) := by decide +kernel
theorem dX1_changeSetting_36 : decode cX1_changeSetting 36 = .ok (.aload_n 0, 1) := by decide +kernel
theorem dX1_changeSetting_37 : decode cX1_changeSetting 37 = .ok (.getfield 64, 3) := by decide +kernel
theorem dX1_changeSetting_40 : decode cX1_changeSetting 40 = .ok (.iload_n 1, 1) := by decide +kernel
theorem dX1_changeSetting_41 : decode cX1_changeSetting 41 = .ok (.iaload, 1) := by decide +kernel
theorem dX1_changeSetting_42 : decode cX1_changeSetting 42 = .ok (.istore_n 3, 1) := by decide +kernel
theorem dX1_changeSetting_43 : decode cX1_changeSetting 43 = .ok (.iload_n 3, 1) := by decide +kernel
theorem dX1_changeSetting_44 : decode cX1_changeSetting 44 = .ok (.iload_n 2, 1) := by decide +kernel
theorem dX1_changeSetting_45 : decode cX1_changeSetting 45 = .ok (.if_icmp .ne 6, 3) := by decide +kernel
theorem dX1_changeSetting_48 : decode cX1_changeSetting 48 = .ok (.bipush (-5), 2) := by decide +kernel
theorem dX1_changeSetting_50 : decode cX1_changeSetting 50 = .ok (.ireturn, 1) := by decide +kernel
theorem dX1_changeSetting_51 : decode cX1_changeSetting 51 = .ok (.aload_n 0, 1) := by decide +kernel
theorem dX1_changeSetting_52 : decode cX1_changeSetting 52 = .ok (.getfield 64, 3) := by decide +kernel
theorem dX1_changeSetting_55 : decode cX1_changeSetting 55 = .ok (.iload_n 1, 1) := by decide +kernel
theorem dX1_changeSetting_56 : decode cX1_changeSetting 56 = .ok (.iload_n 2, 1) := by decide +kernel
theorem dX1_changeSetting_57 : decode cX1_changeSetting 57 = .ok (.iastore, 1) := by decide +kernel
theorem dX1_changeSetting_58 : decode cX1_changeSetting 58 = .ok (.aload_n 0, 1) := by decide +kernel
theorem dX1_changeSetting_59 : decode cX1_changeSetting 59 = .ok (.iconst 0, 1) := by decide +kernel
theorem dX1_changeSetting_60 : decode cX1_changeSetting 60 = .ok (.invokevirtual 111, 3) := by decide +kernel
theorem dX1_changeSetting_63 : decode cX1_changeSetting 63 = .ok (.iload_n 3, 1) := by decide +kernel
theorem dX1_changeSetting_64 : decode cX1_changeSetting 64 = .ok (.ireturn, 1) := by decide +kernel
theorem dX1_letPass_0 : decode cX1_letPass 0 = .ok (.iload_n 1, 1) := by decide +kernel
theorem dX1_letPass_1 : decode cX1_letPass 1 = .ok (.iconst 1, 1) := by decide +kernel
theorem dX1_letPass_2 : decode cX1_letPass 2 = .ok (.if_icmp .lt 9, 3) := by decide +kernel
theorem dX1_letPass_5 : decode cX1_letPass 5 = .ok (.iload_n 1, 1) := by decide +kernel
theorem dX1_letPass_6 : decode cX1_letPass 6 = .ok (.bipush 99, 2) := by decide +kernel
theorem dX1_letPass_8 : decode cX1_letPass 8 = .ok (.if_icmp .le 6, 3) := by decide +kernel
theorem dX1_letPass_11 : decode cX1_letPass 11 = .ok (.bipush (-2), 2) := by decide +kernel
theorem dX1_letPass_13 : decode cX1_letPass 13 = .ok (.ireturn, 1) := by decide +kernel
theorem dX1_letPass_14 : decode cX1_letPass 14 = .ok (.aload_n 0, 1) := by decide +kernel
theorem dX1_letPass_15 : decode cX1_letPass 15 = .ok (.getfield 71, 3) := by decide +kernel
theorem dX1_letPass_18 : decode cX1_letPass 18 = .ok (.iload_n 1, 1) := by decide +kernel
theorem dX1_letPass_19 : decode cX1_letPass 19 = .ok (.iadd, 1) := by decide +kernel
theorem dX1_letPass_20 : decode cX1_letPass 20 = .ok (.ldc 114, 2) := by decide +kernel
theorem dX1_letPass_22 : decode cX1_letPass 22 = .ok (.if_icmp .le 6, 3) := by decide +kernel
theorem dX1_letPass_25 : decode cX1_letPass 25 = .ok (.bipush (-3), 2) := by decide +kernel
theorem dX1_letPass_27 : decode cX1_letPass 27 = .ok (.ireturn, 1) := by decide +kernel
theorem dX1_letPass_28 : decode cX1_letPass 28 = .ok (.aload_n 0, 1) := by decide +kernel
theorem dX1_letPass_29 : decode cX1_letPass 29 = .ok (.iconst 1, 1) := by decide +kernel
theorem dX1_letPass_30 : decode cX1_letPass 30 = .ok (.invokevirtual 115, 3) := by decide +kernel
theorem dX1_letPass_33 : decode cX1_letPass 33 = .ok (.istore_n 2, 1) := by decide +kernel
theorem dX1_letPass_34 : decode cX1_letPass 34 = .ok (.iconst 0, 1) := by decide +kernel
theorem dX1_letPass_35 : decode cX1_letPass 35 = .ok (.istore_n 3, 1) := by decide +kernel
theorem dX1_letPass_36 : decode cX1_letPass 36 = .ok (.iload_n 3, 1) := by decide +kernel
theorem dX1_letPass_37 : decode cX1_letPass 37 = .ok (.iload_n 1, 1) := by decide +kernel
theorem dX1_letPass_38 : decode cX1_letPass 38 = .ok (.if_icmp .ge 13, 3) := by decide +kernel
theorem dX1_letPass_41 : decode cX1_letPass 41 = .ok (.aload_n 0, 1) := by decide +kernel
theorem dX1_letPass_42 : decode cX1_letPass 42 = .ok (.invokevirtual 119, 3) := by decide +kernel
theorem dX1_letPass_45 : decode cX1_letPass 45 = .ok (.iinc 3 1, 3) := by decide +kernel
theorem dX1_letPass_48 : decode cX1_letPass 48 = .ok (.goto (-12), 3) := by decide +kernel
theorem dX1_letPass_51 : decode cX1_letPass 51 = .ok (.aload_n 0, 1) := by decide +kernel
theorem dX1_letPass_52 : decode cX1_letPass 52 = .ok (.iconst 1, 1) := by decide +kernel
theorem dX1_letPass_53 : decode cX1_letPass 53 = .ok (.invokevirtual 115, 3) := by decide +kernel
theorem dX1_letPass_56 : decode cX1_letPass 56 = .ok (.iload_n 2, 1) := by decide +kernel
theorem dX1_letPass_57 : decode cX1_letPass 57 = .ok (.isub, 1) := by decide +kernel
theorem dX1_letPass_58 : decode cX1_letPass 58 = .ok (.ireturn, 1) := by decide +kernel
theorem dX1_passUntilEnd_0 : decode cX1_passUntilEnd 0 = .ok (.iconst 1, 1) := by decide +kernel
theorem dX1_passUntilEnd_1 : decode cX1_passUntilEnd 1 = .ok (.istore_n 3, 1) := by decide +kernel
theorem dX1_passUntilEnd_2 : decode cX1_passUntilEnd 2 = .ok (.iload_n 3, 1) := by decide +kernel
theorem dX1_passUntilEnd_3 : decode cX1_passUntilEnd 3 = .ok (.iload_n 2, 1) := by decide +kernel
theorem dX1_passUntilEnd_4 : decode cX1_passUntilEnd 4 = .ok (.if_icmp .gt 23, 3) := by decide +kernel
theorem dX1_passUntilEnd_7 : decode cX1_passUntilEnd 7 = .ok (.aload_n 0, 1) := by decide +kernel
theorem dX1_passUntilEnd_8 : decode cX1_passUntilEnd 8 = .ok (.invokevirtual 119, 3) := by decide +kernel
theorem dX1_passUntilEnd_11 : decode cX1_passUntilEnd 11 = .ok (.aload_n 0, 1) := by decide +kernel
theorem dX1_passUntilEnd_12 : decode cX1_passUntilEnd 12 = .ok (.iload_n 1, 1) := by decide +kernel
theorem dX1_passUntilEnd_13 : decode cX1_passUntilEnd 13 = .ok (.invokevirtual 122, 3) := by decide +kernel
theorem dX1_passUntilEnd_16 : decode cX1_passUntilEnd 16 = .ok (.ifCond .eq 5, 3) := by decide +kernel
theorem dX1_passUntilEnd_19 : decode cX1_passUntilEnd 19 = .ok (.iload_n 3, 1) := by decide +kernel
theorem dX1_passUntilEnd_20 : decode cX1_passUntilEnd 20 = .ok (.ireturn, 1) := by decide +kernel
theorem dX1_passUntilEnd_21 : decode cX1_passUntilEnd 21 = .ok (.iinc 3 1, 3) := by decide +kernel
theorem dX1_passUntilEnd_24 : decode cX1_passUntilEnd 24 = .ok (.goto (-22), 3) := by decide +kernel
theorem dX1_passUntilEnd_27 : decode cX1_passUntilEnd 27 = .ok (.bipush (-5), 2) := by decide +kernel
theorem dX1_passUntilEnd_29 : decode cX1_passUntilEnd 29 = .ok (.ireturn, 1) := by decide +kernel
theorem dX1_passTurn_0 : decode cX1_passTurn 0 = .ok (.iconst 0, 1) := by decide +kernel
theorem dX1_passTurn_1 : decode cX1_passTurn 1 = .ok (.istore_n 1, 1) := by decide +kernel
theorem dX1_passTurn_2 : decode cX1_passTurn 2 = .ok (.iload_n 1, 1) := by decide +kernel
theorem dX1_passTurn_3 : decode cX1_passTurn 3 = .ok (.aload_n 0, 1) := by decide +kernel
theorem dX1_passTurn_4 : decode cX1_passTurn 4 = .ok (.getfield 67, 3) := by decide +kernel
theorem dX1_passTurn_7 : decode cX1_passTurn 7 = .ok (.if_icmp .ge 45, 3) := by decide +kernel
theorem dX1_passTurn_10 : decode cX1_passTurn 10 = .ok (.aload_n 0, 1) := by decide +kernel
theorem dX1_passTurn_11 : decode cX1_passTurn 11 = .ok (.iload_n 1, 1) := by decide +kernel
theorem dX1_passTurn_12 : decode cX1_passTurn 12 = .ok (.invokevirtual 95, 3) := by decide +kernel
theorem dX1_passTurn_15 : decode cX1_passTurn 15 = .ok (.ifCond .eq 31, 3) := by decide +kernel
theorem dX1_passTurn_18 : decode cX1_passTurn 18 = .ok (.aload_n 0, 1) := by decide +kernel
theorem dX1_passTurn_19 : decode cX1_passTurn 19 = .ok (.iload_n 1, 1) := by decide +kernel
theorem dX1_passTurn_20 : decode cX1_passTurn 20 = .ok (.invokevirtual 125, 3) := by decide +kernel
theorem dX1_passTurn_23 : decode cX1_passTurn 23 = .ok (.istore_n 2, 1) := by decide +kernel
theorem dX1_passTurn_24 : decode cX1_passTurn 24 = .ok (.iload_n 2, 1) := by decide +kernel
theorem dX1_passTurn_25 : decode cX1_passTurn 25 = .ok (.getstatic 128, 3) := by decide +kernel
theorem dX1_passTurn_28 : decode cX1_passTurn 28 = .ok (.arraylength, 1) := by decide +kernel
theorem dX1_passTurn_29 : decode cX1_passTurn 29 = .ok (.if_icmp .ge 12, 3) := by decide +kernel
theorem dX1_passTurn_32 : decode cX1_passTurn 32 = .ok (.aload_n 0, 1) := by decide +kernel
theorem dX1_passTurn_33 : decode cX1_passTurn 33 = .ok (.iload_n 1, 1) := by decide +kernel
theorem dX1_passTurn_34 : decode cX1_passTurn 34 = .ok (.iload_n 2, 1) := by decide +kernel
theorem dX1_passTurn_35 : decode cX1_passTurn 35 = .ok (.invokevirtual 131, 3) := by decide +kernel
theorem dX1_passTurn_38 : decode cX1_passTurn 38 = .ok (.goto 8, 3) := by decide +kernel
theorem dX1_passTurn_41 : decode cX1_passTurn 41 = .ok (.aload_n 0, 1) := by decide +kernel
theorem dX1_passTurn_42 : decode cX1_passTurn 42 = .ok (.iload_n 1, 1) := by decide +kernel
theorem dX1_passTurn_43 : decode cX1_passTurn 43 = .ok (.invokevirtual 135, 3) := by decide +kernel
theorem dX1_passTurn_46 : decode cX1_passTurn 46 = .ok (.iinc 1 1, 3) := by decide +kernel
theorem dX1_passTurn_49 : decode cX1_passTurn 49 = .ok (.goto (-47), 3) := by decide +kernel
theorem dX1_passTurn_52 : decode cX1_passTurn 52 = .ok (.aload_n 0, 1) := by decide +kernel
theorem dX1_passTurn_53 : decode cX1_passTurn 53 = .ok (.iconst 1, 1) := by decide +kernel
theorem dX1_passTurn_54 : decode cX1_passTurn 54 = .ok (.invokevirtual 111, 3) := by decide +kernel
theorem dX1_passTurn_57 : decode cX1_passTurn 57 = .ok (.aload_n 0, 1) := by decide +kernel
theorem dX1_passTurn_58 : decode cX1_passTurn 58 = .ok (.dup, 1) := by decide +kernel
theorem dX1_passTurn_59 : decode cX1_passTurn 59 = .ok (.getfield 71, 3) := by decide +kernel
theorem dX1_passTurn_62 : decode cX1_passTurn 62 = .ok (.iconst 1, 1) := by decide +kernel
theorem dX1_passTurn_63 : decode cX1_passTurn 63 = .ok (.iadd, 1) := by decide +kernel
theorem dX1_passTurn_64 : decode cX1_passTurn 64 = .ok (.putfield 71, 3) := by decide +kernel
theorem dX1_passTurn_67 : decode cX1_passTurn 67 = .ok (.aload_n 0, 1) := by decide +kernel
theorem dX1_passTurn_68 : decode cX1_passTurn 68 = .ok (.getfield 64, 3) := by decide +kernel
theorem dX1_passTurn_71 : decode cX1_passTurn 71 = .ok (.iconst 3, 1) := by decide +kernel
theorem dX1_passTurn_72 : decode cX1_passTurn 72 = .ok (.iaload, 1) := by decide +kernel
theorem dX1_passTurn_73 : decode cX1_passTurn 73 = .ok (.istore_n 1, 1) := by decide +kernel
theorem dX1_passTurn_74 : decode cX1_passTurn 74 = .ok (.iload_n 1, 1) := by decide +kernel
theorem dX1_passTurn_75 : decode cX1_passTurn 75 = .ok (.ifCond .le 16, 3) := by decide +kernel
theorem dX1_passTurn_78 : decode cX1_passTurn 78 = .ok (.aload_n 0, 1) := by decide +kernel
theorem dX1_passTurn_79 : decode cX1_passTurn 79 = .ok (.getfield 71, 3) := by decide +kernel
theorem dX1_passTurn_82 : decode cX1_passTurn 82 = .ok (.iload_n 1, 1) := by decide +kernel
theorem dX1_passTurn_83 : decode cX1_passTurn 83 = .ok (.irem, 1) := by decide +kernel
theorem dX1_passTurn_84 : decode cX1_passTurn 84 = .ok (.ifCond .ne 7, 3) := by decide +kernel
theorem dX1_passTurn_87 : decode cX1_passTurn 87 = .ok (.aload_n 0, 1) := by decide +kernel
theorem dX1_passTurn_88 : decode cX1_passTurn 88 = .ok (.invokevirtual 138, 3) := by decide +kernel
theorem dX1_passTurn_91 : decode cX1_passTurn 91 = .ok (.return_, 1) := by decide +kernel
theorem dX1_choice_0 : decode cX1_choice 0 = .ok (.iconst 4, 1) := by decide +kernel
theorem dX1_choice_1 : decode cX1_choice 1 = .ok (.istore_n 2, 1) := by decide +kernel
theorem dX1_choice_2 : decode cX1_choice 2 = .ok (.iconst 0, 1) := by decide +kernel
theorem dX1_choice_3 : decode cX1_choice 3 = .ok (.istore_n 3, 1) := by decide +kernel
theorem dX1_choice_4 : decode cX1_choice 4 = .ok (.iconst 0, 1) := by decide +kernel
theorem dX1_choice_5 : decode cX1_choice 5 = .ok (.istore 4, 2) := by decide +kernel
theorem dX1_choice_7 : decode cX1_choice 7 = .ok (.iload 4, 2) := by decide +kernel
theorem dX1_choice_9 : decode cX1_choice 9 = .ok (.getstatic 128, 3) := by decide +kernel
theorem dX1_choice_12 : decode cX1_choice 12 = .ok (.arraylength, 1) := by decide +kernel
theorem dX1_choice_13 : decode cX1_choice 13 = .ok (.if_icmp .ge 42, 3) := by decide +kernel
theorem dX1_choice_16 : decode cX1_choice 16 = .ok (.aload_n 0, 1) := by decide +kernel
theorem dX1_choice_17 : decode cX1_choice 17 = .ok (.iload_n 1, 1) := by decide +kernel
theorem dX1_choice_18 : decode cX1_choice 18 = .ok (.iload 4, 2) := by decide +kernel
theorem dX1_choice_20 : decode cX1_choice 20 = .ok (.invokevirtual 141, 3) := by decide +kernel
theorem dX1_choice_23 : decode cX1_choice 23 = .ok (.istore 5, 2) := by decide +kernel
theorem dX1_choice_25 : decode cX1_choice 25 = .ok (.iload 5, 2) := by decide +kernel
theorem dX1_choice_27 : decode cX1_choice 27 = .ok (.bipush (-5), 2) := by decide +kernel
theorem dX1_choice_29 : decode cX1_choice 29 = .ok (.if_icmp .eq 20, 3) := by decide +kernel
theorem dX1_choice_32 : decode cX1_choice 32 = .ok (.iload_n 2, 1) := by decide +kernel
theorem dX1_choice_33 : decode cX1_choice 33 = .ok (.iconst 4, 1) := by decide +kernel
theorem dX1_choice_34 : decode cX1_choice 34 = .ok (.if_icmp .eq 9, 3) := by decide +kernel
theorem dX1_choice_37 : decode cX1_choice 37 = .ok (.iload 5, 2) := by decide +kernel
theorem dX1_choice_39 : decode cX1_choice 39 = .ok (.iload_n 3, 1) := by decide +kernel
theorem dX1_choice_40 : decode cX1_choice 40 = .ok (.if_icmp .ge 9, 3) := by decide +kernel
theorem dX1_choice_43 : decode cX1_choice 43 = .ok (.iload 4, 2) := by decide +kernel
theorem dX1_choice_45 : decode cX1_choice 45 = .ok (.istore_n 2, 1) := by decide +kernel
theorem dX1_choice_46 : decode cX1_choice 46 = .ok (.iload 5, 2) := by decide +kernel
theorem dX1_choice_48 : decode cX1_choice 48 = .ok (.istore_n 3, 1) := by decide +kernel
theorem dX1_choice_49 : decode cX1_choice 49 = .ok (.iinc 4 1, 3) := by decide +kernel
theorem dX1_choice_52 : decode cX1_choice 52 = .ok (.goto (-45), 3) := by decide +kernel
theorem dX1_choice_55 : decode cX1_choice 55 = .ok (.aload_n 0, 1) := by decide +kernel
theorem dX1_choice_56 : decode cX1_choice 56 = .ok (.iload_n 1, 1) := by decide +kernel
theorem dX1_choice_57 : decode cX1_choice 57 = .ok (.invokevirtual 91, 3) := by decide +kernel
theorem dX1_choice_60 : decode cX1_choice 60 = .ok (.ifCond .eq 17, 3) := by decide +kernel
theorem dX1_choice_63 : decode cX1_choice 63 = .ok (.iload_n 3, 1) := by decide +kernel
theorem dX1_choice_64 : decode cX1_choice 64 = .ok (.aload_n 0, 1) := by decide +kernel
theorem dX1_choice_65 : decode cX1_choice 65 = .ok (.getfield 27, 3) := by decide +kernel
theorem dX1_choice_68 : decode cX1_choice 68 = .ok (.iload_n 1, 1) := by decide +kernel
theorem dX1_choice_69 : decode cX1_choice 69 = .ok (.iaload, 1) := by decide +kernel
theorem dX1_choice_70 : decode cX1_choice 70 = .ok (.if_icmp .le 7, 3) := by decide +kernel
theorem dX1_choice_73 : decode cX1_choice 73 = .ok (.iconst 3, 1) := by decide +kernel
theorem dX1_choice_74 : decode cX1_choice 74 = .ok (.goto 4, 3) := by decide +kernel
theorem dX1_choice_77 : decode cX1_choice 77 = .ok (.iload_n 2, 1) := by decide +kernel
theorem dX1_choice_78 : decode cX1_choice 78 = .ok (.ireturn, 1) := by decide +kernel
theorem dX1_stepCost_0 : decode cX1_stepCost 0 = .ok (.aload_n 0, 1) := by decide +kernel
theorem dX1_stepCost_1 : decode cX1_stepCost 1 = .ok (.iload_n 1, 1) := by decide +kernel
theorem dX1_stepCost_2 : decode cX1_stepCost 2 = .ok (.invokevirtual 91, 3) := by decide +kernel
theorem dX1_stepCost_5 : decode cX1_stepCost 5 = .ok (.ifCond .eq 15, 3) := by decide +kernel
theorem dX1_stepCost_8 : decode cX1_stepCost 8 = .ok (.iload_n 2, 1) := by decide +kernel
theorem dX1_stepCost_9 : decode cX1_stepCost 9 = .ok (.ifCond .lt 11, 3) := by decide +kernel
theorem dX1_stepCost_12 : decode cX1_stepCost 12 = .ok (.iload_n 2, 1) := by decide +kernel
theorem dX1_stepCost_13 : decode cX1_stepCost 13 = .ok (.getstatic 128, 3) := by decide +kernel
theorem dX1_stepCost_16 : decode cX1_stepCost 16 = .ok (.arraylength, 1) := by decide +kernel
theorem dX1_stepCost_17 : decode cX1_stepCost 17 = .ok (.if_icmp .lt 6, 3) := by decide +kernel
theorem dX1_stepCost_20 : decode cX1_stepCost 20 = .ok (.bipush (-5), 2) := by decide +kernel
theorem dX1_stepCost_22 : decode cX1_stepCost 22 = .ok (.ireturn, 1) := by decide +kernel
theorem dX1_stepCost_23 : decode cX1_stepCost 23 = .ok (.aload_n 0, 1) := by decide +kernel
theorem dX1_stepCost_24 : decode cX1_stepCost 24 = .ok (.getfield 21, 3) := by decide +kernel
theorem dX1_stepCost_27 : decode cX1_stepCost 27 = .ok (.iload_n 1, 1) := by decide +kernel
theorem dX1_stepCost_28 : decode cX1_stepCost 28 = .ok (.iaload, 1) := by decide +kernel
theorem dX1_stepCost_29 : decode cX1_stepCost 29 = .ok (.getstatic 128, 3) := by decide +kernel
theorem dX1_stepCost_32 : decode cX1_stepCost 32 = .ok (.iload_n 2, 1) := by decide +kernel
theorem dX1_stepCost_33 : decode cX1_stepCost 33 = .ok (.iaload, 1) := by decide +kernel
theorem dX1_stepCost_34 : decode cX1_stepCost 34 = .ok (.iadd, 1) := by decide +kernel
theorem dX1_stepCost_35 : decode cX1_stepCost 35 = .ok (.istore_n 3, 1) := by decide +kernel
theorem dX1_stepCost_36 : decode cX1_stepCost 36 = .ok (.aload_n 0, 1) := by decide +kernel
theorem dX1_stepCost_37 : decode cX1_stepCost 37 = .ok (.getfield 24, 3) := by decide +kernel
theorem dX1_stepCost_40 : decode cX1_stepCost 40 = .ok (.iload_n 1, 1) := by decide +kernel
theorem dX1_stepCost_41 : decode cX1_stepCost 41 = .ok (.iaload, 1) := by decide +kernel
theorem dX1_stepCost_42 : decode cX1_stepCost 42 = .ok (.iconst 1, 1) := by decide +kernel
theorem dX1_stepCost_43 : decode cX1_stepCost 43 = .ok (.iadd, 1) := by decide +kernel
theorem dX1_stepCost_44 : decode cX1_stepCost 44 = .ok (.istore 4, 2) := by decide +kernel
theorem dX1_stepCost_46 : decode cX1_stepCost 46 = .ok (.iload_n 3, 1) := by decide +kernel
theorem dX1_stepCost_47 : decode cX1_stepCost 47 = .ok (.iload 4, 2) := by decide +kernel
theorem dX1_stepCost_49 : decode cX1_stepCost 49 = .ok (.invokestatic 98, 3) := by decide +kernel
theorem dX1_stepCost_52 : decode cX1_stepCost 52 = .ok (.istore 5, 2) := by decide +kernel
theorem dX1_stepCost_54 : decode cX1_stepCost 54 = .ok (.iload 5, 2) := by decide +kernel
theorem dX1_stepCost_56 : decode cX1_stepCost 56 = .ok (.iconst (-1), 1) := by decide +kernel
theorem dX1_stepCost_57 : decode cX1_stepCost 57 = .ok (.if_icmp .eq 15, 3) := by decide +kernel
theorem dX1_stepCost_60 : decode cX1_stepCost 60 = .ok (.aload_n 0, 1) := by decide +kernel
theorem dX1_stepCost_61 : decode cX1_stepCost 61 = .ok (.iload_n 3, 1) := by decide +kernel
theorem dX1_stepCost_62 : decode cX1_stepCost 62 = .ok (.iload 4, 2) := by decide +kernel
theorem dX1_stepCost_64 : decode cX1_stepCost 64 = .ok (.invokevirtual 84, 3) := by decide +kernel
theorem dX1_stepCost_67 : decode cX1_stepCost 67 = .ok (.bipush (-5), 2) := by decide +kernel
theorem dX1_stepCost_69 : decode cX1_stepCost 69 = .ok (.if_icmp .eq 6, 3) := by decide +kernel
theorem dX1_stepCost_72 : decode cX1_stepCost 72 = .ok (.bipush (-5), 2) := by decide +kernel
theorem dX1_stepCost_74 : decode cX1_stepCost 74 = .ok (.ireturn, 1) := by decide +kernel
theorem dX1_stepCost_75 : decode cX1_stepCost 75 = .ok (.aload_n 0, 1) := by decide +kernel
theorem dX1_stepCost_76 : decode cX1_stepCost 76 = .ok (.iload_n 1, 1) := by decide +kernel
theorem dX1_stepCost_77 : decode cX1_stepCost 77 = .ok (.iload 5, 2) := by decide +kernel
theorem dX1_stepCost_79 : decode cX1_stepCost 79 = .ok (.invokevirtual 144, 3) := by decide +kernel
theorem dX1_stepCost_82 : decode cX1_stepCost 82 = .ok (.istore 6, 2) := by decide +kernel
theorem dX1_stepCost_84 : decode cX1_stepCost 84 = .ok (.iload 6, 2) := by decide +kernel
theorem dX1_stepCost_86 : decode cX1_stepCost 86 = .ok (.ifCond .eq 9, 3) := by decide +kernel
theorem dX1_stepCost_89 : decode cX1_stepCost 89 = .ok (.iload 6, 2) := by decide +kernel
theorem dX1_stepCost_91 : decode cX1_stepCost 91 = .ok (.iconst 2, 1) := by decide +kernel
theorem dX1_stepCost_92 : decode cX1_stepCost 92 = .ok (.if_icmp .ne 7, 3) := by decide +kernel
theorem dX1_stepCost_95 : decode cX1_stepCost 95 = .ok (.iconst 1, 1) := by decide +kernel
theorem dX1_stepCost_96 : decode cX1_stepCost 96 = .ok (.goto 9, 3) := by decide +kernel
theorem dX1_stepCost_99 : decode cX1_stepCost 99 = .ok (.aload_n 0, 1) := by decide +kernel
theorem dX1_stepCost_100 : decode cX1_stepCost 100 = .ok (.iload 5, 2) := by decide +kernel
theorem dX1_stepCost_102 : decode cX1_stepCost 102 = .ok (.invokevirtual 147, 3) := by decide +kernel
theorem dX1_stepCost_105 : decode cX1_stepCost 105 = .ok (.ireturn, 1) := by decide +kernel
theorem dX1_whyNoHelp_0 : decode cX1_whyNoHelp 0 = .ok (.iload_n 1, 1) := by decide +kernel
theorem dX1_whyNoHelp_1 : decode cX1_whyNoHelp 1 = .ok (.ifCond .lt 21, 3) := by decide +kernel
theorem dX1_whyNoHelp_4 : decode cX1_whyNoHelp 4 = .ok (.iload_n 1, 1) := by decide +kernel
theorem dX1_whyNoHelp_5 : decode cX1_whyNoHelp 5 = .ok (.aload_n 0, 1) := by decide +kernel
theorem dX1_whyNoHelp_6 : decode cX1_whyNoHelp 6 = .ok (.getfield 67, 3) := by decide +kernel
theorem dX1_whyNoHelp_9 : decode cX1_whyNoHelp 9 = .ok (.if_icmp .ge 13, 3) := by decide +kernel
theorem dX1_whyNoHelp_12 : decode cX1_whyNoHelp 12 = .ok (.iload_n 2, 1) := by decide +kernel
theorem dX1_whyNoHelp_13 : decode cX1_whyNoHelp 13 = .ok (.ifCond .lt 9, 3) := by decide +kernel
theorem dX1_whyNoHelp_16 : decode cX1_whyNoHelp 16 = .ok (.iload_n 2, 1) := by decide +kernel
theorem dX1_whyNoHelp_17 : decode cX1_whyNoHelp 17 = .ok (.bipush 120, 2) := by decide +kernel
theorem dX1_whyNoHelp_19 : decode cX1_whyNoHelp 19 = .ok (.if_icmp .lt 5, 3) := by decide +kernel
theorem dX1_whyNoHelp_22 : decode cX1_whyNoHelp 22 = .ok (.iconst (-1), 1) := by decide +kernel
theorem dX1_whyNoHelp_23 : decode cX1_whyNoHelp 23 = .ok (.ireturn, 1) := by decide +kernel
theorem dX1_whyNoHelp_24 : decode cX1_whyNoHelp 24 = .ok (.aload_n 0, 1) := by decide +kernel
theorem dX1_whyNoHelp_25 : decode cX1_whyNoHelp 25 = .ok (.getfield 15, 3) := by decide +kernel
theorem dX1_whyNoHelp_28 : decode cX1_whyNoHelp 28 = .ok (.iload_n 2, 1) := by decide +kernel
theorem dX1_whyNoHelp_29 : decode cX1_whyNoHelp 29 = .ok (.iaload, 1) := by decide +kernel
theorem dX1_whyNoHelp_30 : decode cX1_whyNoHelp 30 = .ok (.istore_n 3, 1) := by decide +kernel
theorem dX1_whyNoHelp_31 : decode cX1_whyNoHelp 31 = .ok (.iload_n 3, 1) := by decide +kernel
theorem dX1_whyNoHelp_32 : decode cX1_whyNoHelp 32 = .ok (.bipush (-5), 2) := by decide +kernel
theorem dX1_whyNoHelp_34 : decode cX1_whyNoHelp 34 = .ok (.if_icmp .ne 5, 3) := by decide +kernel
theorem dX1_whyNoHelp_37 : decode cX1_whyNoHelp 37 = .ok (.iconst 1, 1) := by decide +kernel
theorem dX1_whyNoHelp_38 : decode cX1_whyNoHelp 38 = .ok (.ireturn, 1) := by decide +kernel
theorem dX1_whyNoHelp_39 : decode cX1_whyNoHelp 39 = .ok (.iload_n 3, 1) := by decide +kernel
theorem dX1_whyNoHelp_40 : decode cX1_whyNoHelp 40 = .ok (.iload_n 1, 1) := by decide +kernel
theorem dX1_whyNoHelp_41 : decode cX1_whyNoHelp 41 = .ok (.if_icmp .ne 5, 3) := by decide +kernel
theorem dX1_whyNoHelp_44 : decode cX1_whyNoHelp 44 = .ok (.iconst 2, 1) := by decide +kernel
theorem dX1_whyNoHelp_45 : decode cX1_whyNoHelp 45 = .ok (.ireturn, 1) := by decide +kernel
theorem dX1_whyNoHelp_46 : decode cX1_whyNoHelp 46 = .ok (.aload_n 0, 1) := by decide +kernel
theorem dX1_whyNoHelp_47 : decode cX1_whyNoHelp 47 = .ok (.getfield 45, 3) := by decide +kernel
theorem dX1_whyNoHelp_50 : decode cX1_whyNoHelp 50 = .ok (.iload_n 1, 1) := by decide +kernel
theorem dX1_whyNoHelp_51 : decode cX1_whyNoHelp 51 = .ok (.iaload, 1) := by decide +kernel
theorem dX1_whyNoHelp_52 : decode cX1_whyNoHelp 52 = .ok (.iload_n 3, 1) := by decide +kernel
theorem dX1_whyNoHelp_53 : decode cX1_whyNoHelp 53 = .ok (.if_icmp .ne 22, 3) := by decide +kernel
theorem dX1_whyNoHelp_56 : decode cX1_whyNoHelp 56 = .ok (.aload_n 0, 1) := by decide +kernel
theorem dX1_whyNoHelp_57 : decode cX1_whyNoHelp 57 = .ok (.getfield 48, 3) := by decide +kernel
theorem dX1_whyNoHelp_60 : decode cX1_whyNoHelp 60 = .ok (.iload_n 1, 1) := by decide +kernel
theorem dX1_whyNoHelp_61 : decode cX1_whyNoHelp 61 = .ok (.iaload, 1) := by decide +kernel
theorem dX1_whyNoHelp_62 : decode cX1_whyNoHelp 62 = .ok (.aload_n 0, 1) := by decide +kernel
theorem dX1_whyNoHelp_63 : decode cX1_whyNoHelp 63 = .ok (.getfield 64, 3) := by decide +kernel
theorem dX1_whyNoHelp_66 : decode cX1_whyNoHelp 66 = .ok (.iconst 1, 1) := by decide +kernel
theorem dX1_whyNoHelp_67 : decode cX1_whyNoHelp 67 = .ok (.iaload, 1) := by decide +kernel
theorem dX1_whyNoHelp_68 : decode cX1_whyNoHelp 68 = .ok (.if_icmp .lt 7, 3) := by decide +kernel
theorem dX1_whyNoHelp_71 : decode cX1_whyNoHelp 71 = .ok (.iconst 1, 1) := by decide +kernel
theorem dX1_whyNoHelp_72 : decode cX1_whyNoHelp 72 = .ok (.goto 4, 3) := by decide +kernel
theorem dX1_whyNoHelp_75 : decode cX1_whyNoHelp 75 = .ok (.iconst 0, 1) := by decide +kernel
theorem dX1_whyNoHelp_76 : decode cX1_whyNoHelp 76 = .ok (.istore 4, 2) := by decide +kernel
theorem dX1_whyNoHelp_78 : decode cX1_whyNoHelp 78 = .ok (.iload 4, 2) := by decide +kernel
theorem dX1_whyNoHelp_80 : decode cX1_whyNoHelp 80 = .ok (.ifCond .eq 7, 3) := by decide +kernel
theorem dX1_whyNoHelp_83 : decode cX1_whyNoHelp 83 = .ok (.iconst 3, 1) := by decide +kernel
theorem dX1_whyNoHelp_84 : decode cX1_whyNoHelp 84 = .ok (.goto 4, 3) := by decide +kernel
theorem dX1_whyNoHelp_87 : decode cX1_whyNoHelp 87 = .ok (.iconst 0, 1) := by decide +kernel
theorem dX1_whyNoHelp_88 : decode cX1_whyNoHelp 88 = .ok (.ireturn, 1) := by decide +kernel
theorem dX1_takeStep_0 : decode cX1_takeStep 0 = .ok (.aload_n 0, 1) := by decide +kernel
theorem dX1_takeStep_1 : decode cX1_takeStep 1 = .ok (.iload_n 1, 1) := by decide +kernel
theorem dX1_takeStep_2 : decode cX1_takeStep 2 = .ok (.iload_n 2, 1) := by decide +kernel
theorem dX1_takeStep_3 : decode cX1_takeStep 3 = .ok (.invokevirtual 141, 3) := by decide +kernel
theorem dX1_takeStep_6 : decode cX1_takeStep 6 = .ok (.istore_n 3, 1) := by decide +kernel
theorem dX1_takeStep_7 : decode cX1_takeStep 7 = .ok (.iload_n 3, 1) := by decide +kernel
theorem dX1_takeStep_8 : decode cX1_takeStep 8 = .ok (.bipush (-5), 2) := by decide +kernel
theorem dX1_takeStep_10 : decode cX1_takeStep 10 = .ok (.if_icmp .ne 4, 3) := by decide +kernel
theorem dX1_takeStep_13 : decode cX1_takeStep 13 = .ok (.return_, 1) := by decide +kernel
theorem dX1_takeStep_14 : decode cX1_takeStep 14 = .ok (.aload_n 0, 1) := by decide +kernel
theorem dX1_takeStep_15 : decode cX1_takeStep 15 = .ok (.getfield 21, 3) := by decide +kernel
theorem dX1_takeStep_18 : decode cX1_takeStep 18 = .ok (.iload_n 1, 1) := by decide +kernel
theorem dX1_takeStep_19 : decode cX1_takeStep 19 = .ok (.iaload, 1) := by decide +kernel
theorem dX1_takeStep_20 : decode cX1_takeStep 20 = .ok (.aload_n 0, 1) := by decide +kernel
theorem dX1_takeStep_21 : decode cX1_takeStep 21 = .ok (.getfield 24, 3) := by decide +kernel
theorem dX1_takeStep_24 : decode cX1_takeStep 24 = .ok (.iload_n 1, 1) := by decide +kernel
theorem dX1_takeStep_25 : decode cX1_takeStep 25 = .ok (.iaload, 1) := by decide +kernel
theorem dX1_takeStep_26 : decode cX1_takeStep 26 = .ok (.invokestatic 98, 3) := by decide +kernel
theorem dX1_takeStep_29 : decode cX1_takeStep 29 = .ok (.istore 4, 2) := by decide +kernel
theorem dX1_takeStep_31 : decode cX1_takeStep 31 = .ok (.aload_n 0, 1) := by decide +kernel
theorem dX1_takeStep_32 : decode cX1_takeStep 32 = .ok (.getfield 21, 3) := by decide +kernel
theorem dX1_takeStep_35 : decode cX1_takeStep 35 = .ok (.iload_n 1, 1) := by decide +kernel
theorem dX1_takeStep_36 : decode cX1_takeStep 36 = .ok (.iaload, 1) := by decide +kernel
theorem dX1_takeStep_37 : decode cX1_takeStep 37 = .ok (.getstatic 128, 3) := by decide +kernel
theorem dX1_takeStep_40 : decode cX1_takeStep 40 = .ok (.iload_n 2, 1) := by decide +kernel
theorem dX1_takeStep_41 : decode cX1_takeStep 41 = .ok (.iaload, 1) := by decide +kernel
theorem dX1_takeStep_42 : decode cX1_takeStep 42 = .ok (.iadd, 1) := by decide +kernel
theorem dX1_takeStep_43 : decode cX1_takeStep 43 = .ok (.istore 5, 2) := by decide +kernel
theorem dX1_takeStep_45 : decode cX1_takeStep 45 = .ok (.aload_n 0, 1) := by decide +kernel
theorem dX1_takeStep_46 : decode cX1_takeStep 46 = .ok (.getfield 24, 3) := by decide +kernel
theorem dX1_takeStep_49 : decode cX1_takeStep 49 = .ok (.iload_n 1, 1) := by decide +kernel
theorem dX1_takeStep_50 : decode cX1_takeStep 50 = .ok (.iaload, 1) := by decide +kernel
theorem dX1_takeStep_51 : decode cX1_takeStep 51 = .ok (.iconst 1, 1) := by decide +kernel
theorem dX1_takeStep_52 : decode cX1_takeStep 52 = .ok (.iadd, 1) := by decide +kernel
theorem dX1_takeStep_53 : decode cX1_takeStep 53 = .ok (.istore 6, 2) := by decide +kernel
theorem dX1_takeStep_55 : decode cX1_takeStep 55 = .ok (.iload 5, 2) := by decide +kernel
theorem dX1_takeStep_57 : decode cX1_takeStep 57 = .ok (.iload 6, 2) := by decide +kernel
theorem dX1_takeStep_59 : decode cX1_takeStep 59 = .ok (.invokestatic 98, 3) := by decide +kernel
theorem dX1_takeStep_62 : decode cX1_takeStep 62 = .ok (.istore 7, 2) := by decide +kernel
theorem dX1_takeStep_64 : decode cX1_takeStep 64 = .ok (.iload 4, 2) := by decide +kernel
theorem dX1_takeStep_66 : decode cX1_takeStep 66 = .ok (.iconst (-1), 1) := by decide +kernel
theorem dX1_takeStep_67 : decode cX1_takeStep 67 = .ok (.if_icmp .eq 9, 3) := by decide +kernel
theorem dX1_takeStep_70 : decode cX1_takeStep 70 = .ok (.iload 7, 2) := by decide +kernel
theorem dX1_takeStep_72 : decode cX1_takeStep 72 = .ok (.iconst (-1), 1) := by decide +kernel
theorem dX1_takeStep_73 : decode cX1_takeStep 73 = .ok (.if_icmp .ne 4, 3) := by decide +kernel
theorem dX1_takeStep_76 : decode cX1_takeStep 76 = .ok (.return_, 1) := by decide +kernel
theorem dX1_takeStep_77 : decode cX1_takeStep 77 = .ok (.aload_n 0, 1) := by decide +kernel
theorem dX1_takeStep_78 : decode cX1_takeStep 78 = .ok (.iload_n 1, 1) := by decide +kernel
theorem dX1_takeStep_79 : decode cX1_takeStep 79 = .ok (.aload_n 0, 1) := by decide +kernel
theorem dX1_takeStep_80 : decode cX1_takeStep 80 = .ok (.iload_n 1, 1) := by decide +kernel
theorem dX1_takeStep_81 : decode cX1_takeStep 81 = .ok (.iload 7, 2) := by decide +kernel
theorem dX1_takeStep_83 : decode cX1_takeStep 83 = .ok (.invokevirtual 144, 3) := by decide +kernel
theorem dX1_takeStep_86 : decode cX1_takeStep 86 = .ok (.ifCond .ne 13, 3) := by decide +kernel
theorem dX1_takeStep_89 : decode cX1_takeStep 89 = .ok (.aload_n 0, 1) := by decide +kernel
theorem dX1_takeStep_90 : decode cX1_takeStep 90 = .ok (.getfield 15, 3) := by decide +kernel
theorem dX1_takeStep_93 : decode cX1_takeStep 93 = .ok (.iload 7, 2) := by decide +kernel
theorem dX1_takeStep_95 : decode cX1_takeStep 95 = .ok (.iaload, 1) := by decide +kernel
theorem dX1_takeStep_96 : decode cX1_takeStep 96 = .ok (.goto 5, 3) := by decide +kernel
theorem dX1_takeStep_99 : decode cX1_takeStep 99 = .ok (.bipush (-5), 2) := by decide +kernel
theorem dX1_takeStep_101 : decode cX1_takeStep 101 = .ok (.invokevirtual 150, 3) := by decide +kernel
theorem dX1_takeStep_104 : decode cX1_takeStep 104 = .ok (.aload_n 0, 1) := by decide +kernel
theorem dX1_takeStep_105 : decode cX1_takeStep 105 = .ok (.getfield 27, 3) := by decide +kernel
theorem dX1_takeStep_108 : decode cX1_takeStep 108 = .ok (.iload_n 1, 1) := by decide +kernel
theorem dX1_takeStep_109 : decode cX1_takeStep 109 = .ok (.dup2, 1) := by decide +kernel
theorem dX1_takeStep_110 : decode cX1_takeStep 110 = .ok (.iaload, 1) := by decide +kernel
theorem dX1_takeStep_111 : decode cX1_takeStep 111 = .ok (.iload_n 3, 1) := by decide +kernel
theorem dX1_takeStep_112 : decode cX1_takeStep 112 = .ok (.isub, 1) := by decide +kernel
theorem dX1_takeStep_113 : decode cX1_takeStep 113 = .ok (.iastore, 1) := by decide +kernel
theorem dX1_takeStep_114 : decode cX1_takeStep 114 = .ok (.aload_n 0, 1) := by decide +kernel
theorem dX1_takeStep_115 : decode cX1_takeStep 115 = .ok (.getfield 36, 3) := by decide +kernel
theorem dX1_takeStep_118 : decode cX1_takeStep 118 = .ok (.iload_n 1, 1) := by decide +kernel
theorem dX1_takeStep_119 : decode cX1_takeStep 119 = .ok (.dup2, 1) := by decide +kernel
theorem dX1_takeStep_120 : decode cX1_takeStep 120 = .ok (.iaload, 1) := by decide +kernel
theorem dX1_takeStep_121 : decode cX1_takeStep 121 = .ok (.iconst 1, 1) := by decide +kernel
theorem dX1_takeStep_122 : decode cX1_takeStep 122 = .ok (.iadd, 1) := by decide +kernel
theorem dX1_takeStep_123 : decode cX1_takeStep 123 = .ok (.iastore, 1) := by decide +kernel
theorem dX1_takeStep_124 : decode cX1_takeStep 124 = .ok (.aload_n 0, 1) := by decide +kernel
theorem dX1_takeStep_125 : decode cX1_takeStep 125 = .ok (.getfield 15, 3) := by decide +kernel
theorem dX1_takeStep_128 : decode cX1_takeStep 128 = .ok (.iload 4, 2) := by decide +kernel
theorem dX1_takeStep_130 : decode cX1_takeStep 130 = .ok (.iload_n 1, 1) := by decide +kernel
theorem dX1_takeStep_131 : decode cX1_takeStep 131 = .ok (.iastore, 1) := by decide +kernel
theorem dX1_takeStep_132 : decode cX1_takeStep 132 = .ok (.aload_n 0, 1) := by decide +kernel
theorem dX1_takeStep_133 : decode cX1_takeStep 133 = .ok (.getfield 18, 3) := by decide +kernel
theorem dX1_takeStep_136 : decode cX1_takeStep 136 = .ok (.iload 4, 2) := by decide +kernel
theorem dX1_takeStep_138 : decode cX1_takeStep 138 = .ok (.iconst 0, 1) := by decide +kernel
theorem dX1_takeStep_139 : decode cX1_takeStep 139 = .ok (.iastore, 1) := by decide +kernel
theorem dX1_takeStep_140 : decode cX1_takeStep 140 = .ok (.aload_n 0, 1) := by decide +kernel
theorem dX1_takeStep_141 : decode cX1_takeStep 141 = .ok (.getfield 21, 3) := by decide +kernel
theorem dX1_takeStep_144 : decode cX1_takeStep 144 = .ok (.iload_n 1, 1) := by decide +kernel
theorem dX1_takeStep_145 : decode cX1_takeStep 145 = .ok (.iload 5, 2) := by decide +kernel
theorem dX1_takeStep_147 : decode cX1_takeStep 147 = .ok (.iastore, 1) := by decide +kernel
theorem dX1_takeStep_148 : decode cX1_takeStep 148 = .ok (.aload_n 0, 1) := by decide +kernel
theorem dX1_takeStep_149 : decode cX1_takeStep 149 = .ok (.getfield 24, 3) := by decide +kernel
theorem dX1_takeStep_152 : decode cX1_takeStep 152 = .ok (.iload_n 1, 1) := by decide +kernel
theorem dX1_takeStep_153 : decode cX1_takeStep 153 = .ok (.iload 6, 2) := by decide +kernel
theorem dX1_takeStep_155 : decode cX1_takeStep 155 = .ok (.iastore, 1) := by decide +kernel
theorem dX1_takeStep_156 : decode cX1_takeStep 156 = .ok (.iload 6, 2) := by decide +kernel
theorem dX1_takeStep_158 : decode cX1_takeStep 158 = .ok (.bipush 19, 2) := by decide +kernel
theorem dX1_takeStep_160 : decode cX1_takeStep 160 = .ok (.if_icmp .ne 23, 3) := by decide +kernel
theorem dX1_takeStep_163 : decode cX1_takeStep 163 = .ok (.aload_n 0, 1) := by decide +kernel
theorem dX1_takeStep_164 : decode cX1_takeStep 164 = .ok (.getfield 33, 3) := by decide +kernel
theorem dX1_takeStep_167 : decode cX1_takeStep 167 = .ok (.iload_n 1, 1) := by decide +kernel
theorem dX1_takeStep_168 : decode cX1_takeStep 168 = .ok (.aload_n 0, 1) := by decide +kernel
theorem dX1_takeStep_169 : decode cX1_takeStep 169 = .ok (.iconst 1, 1) := by decide +kernel
theorem dX1_takeStep_170 : decode cX1_takeStep 170 = .ok (.invokevirtual 115, 3) := by decide +kernel
theorem dX1_takeStep_173 : decode cX1_takeStep 173 = .ok (.iconst 1, 1) := by decide +kernel
theorem dX1_takeStep_174 : decode cX1_takeStep 174 = .ok (.iadd, 1) := by decide +kernel
theorem dX1_takeStep_175 : decode cX1_takeStep 175 = .ok (.iastore, 1) := by decide +kernel
theorem dX1_takeStep_176 : decode cX1_takeStep 176 = .ok (.aload_n 0, 1) := by decide +kernel
theorem dX1_takeStep_177 : decode cX1_takeStep 177 = .ok (.getfield 30, 3) := by decide +kernel
theorem dX1_takeStep_180 : decode cX1_takeStep 180 = .ok (.iload_n 1, 1) := by decide +kernel
theorem dX1_takeStep_181 : decode cX1_takeStep 181 = .ok (.iconst 1, 1) := by decide +kernel
theorem dX1_takeStep_182 : decode cX1_takeStep 182 = .ok (.iastore, 1) := by decide +kernel
theorem dX1_takeStep_183 : decode cX1_takeStep 183 = .ok (.return_, 1) := by decide +kernel
theorem dX1_rest_0 : decode cX1_rest 0 = .ok (.aload_n 0, 1) := by decide +kernel
theorem dX1_rest_1 : decode cX1_rest 1 = .ok (.getfield 27, 3) := by decide +kernel
theorem dX1_rest_4 : decode cX1_rest 4 = .ok (.iload_n 1, 1) := by decide +kernel
theorem dX1_rest_5 : decode cX1_rest 5 = .ok (.aload_n 0, 1) := by decide +kernel
theorem dX1_rest_6 : decode cX1_rest 6 = .ok (.getfield 27, 3) := by decide +kernel
theorem dX1_rest_9 : decode cX1_rest 9 = .ok (.iload_n 1, 1) := by decide +kernel
theorem dX1_rest_10 : decode cX1_rest 10 = .ok (.iaload, 1) := by decide +kernel
theorem dX1_rest_11 : decode cX1_rest 11 = .ok (.aload_n 0, 1) := by decide +kernel
theorem dX1_rest_12 : decode cX1_rest 12 = .ok (.getfield 64, 3) := by decide +kernel
theorem dX1_rest_15 : decode cX1_rest 15 = .ok (.iconst 2, 1) := by decide +kernel
theorem dX1_rest_16 : decode cX1_rest 16 = .ok (.iaload, 1) := by decide +kernel
theorem dX1_rest_17 : decode cX1_rest 17 = .ok (.iadd, 1) := by decide +kernel
theorem dX1_rest_18 : decode cX1_rest 18 = .ok (.bipush 99, 2) := by decide +kernel
theorem dX1_rest_20 : decode cX1_rest 20 = .ok (.invokestatic 153, 3) := by decide +kernel
theorem dX1_rest_23 : decode cX1_rest 23 = .ok (.iastore, 1) := by decide +kernel
theorem dX1_rest_24 : decode cX1_rest 24 = .ok (.aload_n 0, 1) := by decide +kernel
theorem dX1_rest_25 : decode cX1_rest 25 = .ok (.getfield 42, 3) := by decide +kernel
theorem dX1_rest_28 : decode cX1_rest 28 = .ok (.iload_n 1, 1) := by decide +kernel
theorem dX1_rest_29 : decode cX1_rest 29 = .ok (.dup2, 1) := by decide +kernel
theorem dX1_rest_30 : decode cX1_rest 30 = .ok (.iaload, 1) := by decide +kernel
theorem dX1_rest_31 : decode cX1_rest 31 = .ok (.iconst 1, 1) := by decide +kernel
theorem dX1_rest_32 : decode cX1_rest 32 = .ok (.iadd, 1) := by decide +kernel
theorem dX1_rest_33 : decode cX1_rest 33 = .ok (.iastore, 1) := by decide +kernel
theorem dX1_rest_34 : decode cX1_rest 34 = .ok (.aload_n 0, 1) := by decide +kernel
theorem dX1_rest_35 : decode cX1_rest 35 = .ok (.iload_n 1, 1) := by decide +kernel
theorem dX1_rest_36 : decode cX1_rest 36 = .ok (.bipush (-5), 2) := by decide +kernel
theorem dX1_rest_38 : decode cX1_rest 38 = .ok (.invokevirtual 150, 3) := by decide +kernel
theorem dX1_rest_41 : decode cX1_rest 41 = .ok (.return_, 1) := by decide +kernel
theorem dX1_noteLender_0 : decode cX1_noteLender 0 = .ok (.aload_n 0, 1) := by decide +kernel
theorem dX1_noteLender_1 : decode cX1_noteLender 1 = .ok (.iload_n 2, 1) := by decide +kernel
theorem dX1_noteLender_2 : decode cX1_noteLender 2 = .ok (.invokevirtual 91, 3) := by decide +kernel
theorem dX1_noteLender_5 : decode cX1_noteLender 5 = .ok (.ifCond .ne 19, 3) := by decide +kernel
theorem dX1_noteLender_8 : decode cX1_noteLender 8 = .ok (.aload_n 0, 1) := by decide +kernel
theorem dX1_noteLender_9 : decode cX1_noteLender 9 = .ok (.getfield 45, 3) := by decide +kernel
theorem dX1_noteLender_12 : decode cX1_noteLender 12 = .ok (.iload_n 1, 1) := by decide +kernel
theorem dX1_noteLender_13 : decode cX1_noteLender 13 = .ok (.bipush (-5), 2) := by decide +kernel
theorem dX1_noteLender_15 : decode cX1_noteLender 15 = .ok (.iastore, 1) := by decide +kernel
theorem dX1_noteLender_16 : decode cX1_noteLender 16 = .ok (.aload_n 0, 1) := by decide +kernel
theorem dX1_noteLender_17 : decode cX1_noteLender 17 = .ok (.getfield 48, 3) := by decide +kernel
theorem dX1_noteLender_20 : decode cX1_noteLender 20 = .ok (.iload_n 1, 1) := by decide +kernel
theorem dX1_noteLender_21 : decode cX1_noteLender 21 = .ok (.iconst 0, 1) := by decide +kernel
theorem dX1_noteLender_22 : decode cX1_noteLender 22 = .ok (.iastore, 1) := by decide +kernel
theorem dX1_noteLender_23 : decode cX1_noteLender 23 = .ok (.return_, 1) := by decide +kernel
theorem dX1_noteLender_24 : decode cX1_noteLender 24 = .ok (.aload_n 0, 1) := by decide +kernel
theorem dX1_noteLender_25 : decode cX1_noteLender 25 = .ok (.getfield 48, 3) := by decide +kernel
theorem dX1_noteLender_28 : decode cX1_noteLender 28 = .ok (.iload_n 1, 1) := by decide +kernel
theorem dX1_noteLender_29 : decode cX1_noteLender 29 = .ok (.aload_n 0, 1) := by decide +kernel
theorem dX1_noteLender_30 : decode cX1_noteLender 30 = .ok (.getfield 45, 3) := by decide +kernel
theorem dX1_noteLender_33 : decode cX1_noteLender 33 = .ok (.iload_n 1, 1) := by decide +kernel
theorem dX1_noteLender_34 : decode cX1_noteLender 34 = .ok (.iaload, 1) := by decide +kernel
theorem dX1_noteLender_35 : decode cX1_noteLender 35 = .ok (.iload_n 2, 1) := by decide +kernel
theorem dX1_noteLender_36 : decode cX1_noteLender 36 = .ok (.if_icmp .ne 14, 3) := by decide +kernel
theorem dX1_noteLender_39 : decode cX1_noteLender 39 = .ok (.aload_n 0, 1) := by decide +kernel
theorem dX1_noteLender_40 : decode cX1_noteLender 40 = .ok (.getfield 48, 3) := by decide +kernel
theorem dX1_noteLender_43 : decode cX1_noteLender 43 = .ok (.iload_n 1, 1) := by decide +kernel
theorem dX1_noteLender_44 : decode cX1_noteLender 44 = .ok (.iaload, 1) := by decide +kernel
theorem dX1_noteLender_45 : decode cX1_noteLender 45 = .ok (.iconst 1, 1) := by decide +kernel
theorem dX1_noteLender_46 : decode cX1_noteLender 46 = .ok (.iadd, 1) := by decide +kernel
theorem dX1_noteLender_47 : decode cX1_noteLender 47 = .ok (.goto 4, 3) := by decide +kernel
theorem dX1_noteLender_50 : decode cX1_noteLender 50 = .ok (.iconst 1, 1) := by decide +kernel
theorem dX1_noteLender_51 : decode cX1_noteLender 51 = .ok (.iastore, 1) := by decide +kernel
theorem dX1_noteLender_52 : decode cX1_noteLender 52 = .ok (.aload_n 0, 1) := by decide +kernel
theorem dX1_noteLender_53 : decode cX1_noteLender 53 = .ok (.getfield 45, 3) := by decide +kernel
theorem dX1_noteLender_56 : decode cX1_noteLender 56 = .ok (.iload_n 1, 1) := by decide +kernel
theorem dX1_noteLender_57 : decode cX1_noteLender 57 = .ok (.iload_n 2, 1) := by decide +kernel
theorem dX1_noteLender_58 : decode cX1_noteLender 58 = .ok (.iastore, 1) := by decide +kernel
theorem dX1_noteLender_59 : decode cX1_noteLender 59 = .ok (.aload_n 0, 1) := by decide +kernel
theorem dX1_noteLender_60 : decode cX1_noteLender 60 = .ok (.getfield 39, 3) := by decide +kernel
theorem dX1_noteLender_63 : decode cX1_noteLender 63 = .ok (.iload_n 1, 1) := by decide +kernel
theorem dX1_noteLender_64 : decode cX1_noteLender 64 = .ok (.dup2, 1) := by decide +kernel
theorem dX1_noteLender_65 : decode cX1_noteLender 65 = .ok (.iaload, 1) := by decide +kernel
theorem dX1_noteLender_66 : decode cX1_noteLender 66 = .ok (.iconst 1, 1) := by decide +kernel
theorem dX1_noteLender_67 : decode cX1_noteLender 67 = .ok (.iadd, 1) := by decide +kernel
theorem dX1_noteLender_68 : decode cX1_noteLender 68 = .ok (.iastore, 1) := by decide +kernel
theorem dX1_noteLender_69 : decode cX1_noteLender 69 = .ok (.aload_n 0, 1) := by decide +kernel
theorem dX1_noteLender_70 : decode cX1_noteLender 70 = .ok (.getfield 53, 3) := by decide +kernel
theorem dX1_noteLender_73 : decode cX1_noteLender 73 = .ok (.iload_n 1, 1) := by decide +kernel
theorem dX1_noteLender_74 : decode cX1_noteLender 74 = .ok (.aaload, 1) := by decide +kernel
theorem dX1_noteLender_75 : decode cX1_noteLender 75 = .ok (.iload_n 2, 1) := by decide +kernel
theorem dX1_noteLender_76 : decode cX1_noteLender 76 = .ok (.dup2, 1) := by decide +kernel
theorem dX1_noteLender_77 : decode cX1_noteLender 77 = .ok (.iaload, 1) := by decide +kernel
theorem dX1_noteLender_78 : decode cX1_noteLender 78 = .ok (.iconst 1, 1) := by decide +kernel
theorem dX1_noteLender_79 : decode cX1_noteLender 79 = .ok (.iadd, 1) := by decide +kernel
theorem dX1_noteLender_80 : decode cX1_noteLender 80 = .ok (.iastore, 1) := by decide +kernel
theorem dX1_noteLender_81 : decode cX1_noteLender 81 = .ok (.return_, 1) := by decide +kernel
theorem dX1_dryTrails_0 : decode cX1_dryTrails 0 = .ok (.iconst 0, 1) := by decide +kernel
theorem dX1_dryTrails_1 : decode cX1_dryTrails 1 = .ok (.istore_n 2, 1) := by decide +kernel
theorem dX1_dryTrails_2 : decode cX1_dryTrails 2 = .ok (.iload_n 2, 1) := by decide +kernel
theorem dX1_dryTrails_3 : decode cX1_dryTrails 3 = .ok (.bipush 120, 2) := by decide +kernel
theorem dX1_dryTrails_5 : decode cX1_dryTrails 5 = .ok (.if_icmp .ge 50, 3) := by decide +kernel
theorem dX1_dryTrails_8 : decode cX1_dryTrails 8 = .ok (.aload_n 0, 1) := by decide +kernel
theorem dX1_dryTrails_9 : decode cX1_dryTrails 9 = .ok (.getfield 15, 3) := by decide +kernel
theorem dX1_dryTrails_12 : decode cX1_dryTrails 12 = .ok (.iload_n 2, 1) := by decide +kernel
theorem dX1_dryTrails_13 : decode cX1_dryTrails 13 = .ok (.iaload, 1) := by decide +kernel
theorem dX1_dryTrails_14 : decode cX1_dryTrails 14 = .ok (.bipush (-5), 2) := by decide +kernel
theorem dX1_dryTrails_16 : decode cX1_dryTrails 16 = .ok (.if_icmp .eq 33, 3) := by decide +kernel
theorem dX1_dryTrails_19 : decode cX1_dryTrails 19 = .ok (.aload_n 0, 1) := by decide +kernel
theorem dX1_dryTrails_20 : decode cX1_dryTrails 20 = .ok (.getfield 18, 3) := by decide +kernel
theorem dX1_dryTrails_23 : decode cX1_dryTrails 23 = .ok (.iload_n 2, 1) := by decide +kernel
theorem dX1_dryTrails_24 : decode cX1_dryTrails 24 = .ok (.dup2, 1) := by decide +kernel
theorem dX1_dryTrails_25 : decode cX1_dryTrails 25 = .ok (.iaload, 1) := by decide +kernel
theorem dX1_dryTrails_26 : decode cX1_dryTrails 26 = .ok (.iload_n 1, 1) := by decide +kernel
theorem dX1_dryTrails_27 : decode cX1_dryTrails 27 = .ok (.iadd, 1) := by decide +kernel
theorem dX1_dryTrails_28 : decode cX1_dryTrails 28 = .ok (.iastore, 1) := by decide +kernel
theorem dX1_dryTrails_29 : decode cX1_dryTrails 29 = .ok (.aload_n 0, 1) := by decide +kernel
theorem dX1_dryTrails_30 : decode cX1_dryTrails 30 = .ok (.getfield 18, 3) := by decide +kernel
theorem dX1_dryTrails_33 : decode cX1_dryTrails 33 = .ok (.iload_n 2, 1) := by decide +kernel
theorem dX1_dryTrails_34 : decode cX1_dryTrails 34 = .ok (.iaload, 1) := by decide +kernel
theorem dX1_dryTrails_35 : decode cX1_dryTrails 35 = .ok (.aload_n 0, 1) := by decide +kernel
theorem dX1_dryTrails_36 : decode cX1_dryTrails 36 = .ok (.getfield 64, 3) := by decide +kernel
theorem dX1_dryTrails_39 : decode cX1_dryTrails 39 = .ok (.iconst 0, 1) := by decide +kernel
theorem dX1_dryTrails_40 : decode cX1_dryTrails 40 = .ok (.iaload, 1) := by decide +kernel
theorem dX1_dryTrails_41 : decode cX1_dryTrails 41 = .ok (.if_icmp .le 8, 3) := by decide +kernel
theorem dX1_dryTrails_44 : decode cX1_dryTrails 44 = .ok (.aload_n 0, 1) := by decide +kernel
theorem dX1_dryTrails_45 : decode cX1_dryTrails 45 = .ok (.iload_n 2, 1) := by decide +kernel
theorem dX1_dryTrails_46 : decode cX1_dryTrails 46 = .ok (.invokevirtual 101, 3) := by decide +kernel
theorem dX1_dryTrails_49 : decode cX1_dryTrails 49 = .ok (.iinc 2 1, 3) := by decide +kernel
theorem dX1_dryTrails_52 : decode cX1_dryTrails 52 = .ok (.goto (-50), 3) := by decide +kernel
theorem dX1_dryTrails_55 : decode cX1_dryTrails 55 = .ok (.return_, 1) := by decide +kernel
theorem dX1_clearTrail_0 : decode cX1_clearTrail 0 = .ok (.aload_n 0, 1) := by decide +kernel
theorem dX1_clearTrail_1 : decode cX1_clearTrail 1 = .ok (.getfield 15, 3) := by decide +kernel
theorem dX1_clearTrail_4 : decode cX1_clearTrail 4 = .ok (.iload_n 1, 1) := by decide +kernel
theorem dX1_clearTrail_5 : decode cX1_clearTrail 5 = .ok (.bipush (-5), 2) := by decide +kernel
theorem dX1_clearTrail_7 : decode cX1_clearTrail 7 = .ok (.iastore, 1) := by decide +kernel
theorem dX1_clearTrail_8 : decode cX1_clearTrail 8 = .ok (.aload_n 0, 1) := by decide +kernel
theorem dX1_clearTrail_9 : decode cX1_clearTrail 9 = .ok (.getfield 18, 3) := by decide +kernel
theorem dX1_clearTrail_12 : decode cX1_clearTrail 12 = .ok (.iload_n 1, 1) := by decide +kernel
theorem dX1_clearTrail_13 : decode cX1_clearTrail 13 = .ok (.bipush (-5), 2) := by decide +kernel
theorem dX1_clearTrail_15 : decode cX1_clearTrail 15 = .ok (.iastore, 1) := by decide +kernel
theorem dX1_clearTrail_16 : decode cX1_clearTrail 16 = .ok (.return_, 1) := by decide +kernel
theorem dX1_growFrost_0 : decode cX1_growFrost 0 = .ok (.iconst 0, 1) := by decide +kernel
theorem dX1_growFrost_1 : decode cX1_growFrost 1 = .ok (.istore_n 1, 1) := by decide +kernel
theorem dX1_growFrost_2 : decode cX1_growFrost 2 = .ok (.iload_n 1, 1) := by decide +kernel
theorem dX1_growFrost_3 : decode cX1_growFrost 3 = .ok (.bipush 120, 2) := by decide +kernel
theorem dX1_growFrost_5 : decode cX1_growFrost 5 = .ok (.if_icmp .ge 41, 3) := by decide +kernel
theorem dX1_growFrost_8 : decode cX1_growFrost 8 = .ok (.aload_n 0, 1) := by decide +kernel
theorem dX1_growFrost_9 : decode cX1_growFrost 9 = .ok (.getfield 15, 3) := by decide +kernel
theorem dX1_growFrost_12 : decode cX1_growFrost 12 = .ok (.iload_n 1, 1) := by decide +kernel
theorem dX1_growFrost_13 : decode cX1_growFrost 13 = .ok (.iaload, 1) := by decide +kernel
theorem dX1_growFrost_14 : decode cX1_growFrost 14 = .ok (.bipush (-5), 2) := by decide +kernel
theorem dX1_growFrost_16 : decode cX1_growFrost 16 = .ok (.if_icmp .ne 24, 3) := by decide +kernel
theorem dX1_growFrost_19 : decode cX1_growFrost 19 = .ok (.aload_n 0, 1) := by decide +kernel
theorem dX1_growFrost_20 : decode cX1_growFrost 20 = .ok (.getfield 9, 3) := by decide +kernel
theorem dX1_growFrost_23 : decode cX1_growFrost 23 = .ok (.iload_n 1, 1) := by decide +kernel
theorem dX1_growFrost_24 : decode cX1_growFrost 24 = .ok (.iaload, 1) := by decide +kernel
theorem dX1_growFrost_25 : decode cX1_growFrost 25 = .ok (.bipush 9, 2) := by decide +kernel
theorem dX1_growFrost_27 : decode cX1_growFrost 27 = .ok (.if_icmp .ge 13, 3) := by decide +kernel
theorem dX1_growFrost_30 : decode cX1_growFrost 30 = .ok (.aload_n 0, 1) := by decide +kernel
theorem dX1_growFrost_31 : decode cX1_growFrost 31 = .ok (.getfield 9, 3) := by decide +kernel
theorem dX1_growFrost_34 : decode cX1_growFrost 34 = .ok (.iload_n 1, 1) := by decide +kernel
theorem dX1_growFrost_35 : decode cX1_growFrost 35 = .ok (.dup2, 1) := by decide +kernel
theorem dX1_growFrost_36 : decode cX1_growFrost 36 = .ok (.iaload, 1) := by decide +kernel
theorem dX1_growFrost_37 : decode cX1_growFrost 37 = .ok (.iconst 1, 1) := by decide +kernel
theorem dX1_growFrost_38 : decode cX1_growFrost 38 = .ok (.iadd, 1) := by decide +kernel
theorem dX1_growFrost_39 : decode cX1_growFrost 39 = .ok (.iastore, 1) := by decide +kernel
theorem dX1_growFrost_40 : decode cX1_growFrost 40 = .ok (.iinc 1 1, 3) := by decide +kernel
theorem dX1_growFrost_43 : decode cX1_growFrost 43 = .ok (.goto (-41), 3) := by decide +kernel
theorem dX1_growFrost_46 : decode cX1_growFrost 46 = .ok (.return_, 1) := by decide +kernel
theorem dX1_knows_0 : decode cX1_knows 0 = .ok (.iload_n 1, 1) := by decide +kernel
theorem dX1_knows_1 : decode cX1_knows 1 = .ok (.ifCond .lt 15, 3) := by decide +kernel
theorem dX1_knows_4 : decode cX1_knows 4 = .ok (.iload_n 1, 1) := by decide +kernel
theorem dX1_knows_5 : decode cX1_knows 5 = .ok (.aload_n 0, 1) := by decide +kernel
theorem dX1_knows_6 : decode cX1_knows 6 = .ok (.getfield 67, 3) := by decide +kernel
theorem dX1_knows_9 : decode cX1_knows 9 = .ok (.if_icmp .ge 7, 3) := by decide +kernel
theorem dX1_knows_12 : decode cX1_knows 12 = .ok (.iconst 1, 1) := by decide +kernel
theorem dX1_knows_13 : decode cX1_knows 13 = .ok (.goto 4, 3) := by decide +kernel
theorem dX1_knows_16 : decode cX1_knows 16 = .ok (.iconst 0, 1) := by decide +kernel
theorem dX1_knows_17 : decode cX1_knows 17 = .ok (.ireturn, 1) := by decide +kernel
theorem dX1_creeps_0 : decode cX1_creeps 0 = .ok (.aload_n 0, 1) := by decide +kernel
theorem dX1_creeps_1 : decode cX1_creeps 1 = .ok (.iload_n 1, 1) := by decide +kernel
theorem dX1_creeps_2 : decode cX1_creeps 2 = .ok (.invokevirtual 91, 3) := by decide +kernel
theorem dX1_creeps_5 : decode cX1_creeps 5 = .ok (.ifCond .eq 16, 3) := by decide +kernel
theorem dX1_creeps_8 : decode cX1_creeps 8 = .ok (.aload_n 0, 1) := by decide +kernel
theorem dX1_creeps_9 : decode cX1_creeps 9 = .ok (.getfield 30, 3) := by decide +kernel
theorem dX1_creeps_12 : decode cX1_creeps 12 = .ok (.iload_n 1, 1) := by decide +kernel
theorem dX1_creeps_13 : decode cX1_creeps 13 = .ok (.iaload, 1) := by decide +kernel
theorem dX1_creeps_14 : decode cX1_creeps 14 = .ok (.ifCond .ne 7, 3) := by decide +kernel
theorem dX1_creeps_17 : decode cX1_creeps 17 = .ok (.iconst 1, 1) := by decide +kernel
theorem dX1_creeps_18 : decode cX1_creeps 18 = .ok (.goto 4, 3) := by decide +kernel
theorem dX1_creeps_21 : decode cX1_creeps 21 = .ok (.iconst 0, 1) := by decide +kernel
theorem dX1_creeps_22 : decode cX1_creeps 22 = .ok (.ireturn, 1) := by decide +kernel
theorem dX1_hasEnded_0 : decode cX1_hasEnded 0 = .ok (.aload_n 0, 1) := by decide +kernel
theorem dX1_hasEnded_1 : decode cX1_hasEnded 1 = .ok (.iload_n 1, 1) := by decide +kernel
theorem dX1_hasEnded_2 : decode cX1_hasEnded 2 = .ok (.invokevirtual 91, 3) := by decide +kernel
theorem dX1_hasEnded_5 : decode cX1_hasEnded 5 = .ok (.ifCond .eq 17, 3) := by decide +kernel
theorem dX1_hasEnded_8 : decode cX1_hasEnded 8 = .ok (.aload_n 0, 1) := by decide +kernel
theorem dX1_hasEnded_9 : decode cX1_hasEnded 9 = .ok (.getfield 30, 3) := by decide +kernel
theorem dX1_hasEnded_12 : decode cX1_hasEnded 12 = .ok (.iload_n 1, 1) := by decide +kernel
theorem dX1_hasEnded_13 : decode cX1_hasEnded 13 = .ok (.iaload, 1) := by decide +kernel
theorem dX1_hasEnded_14 : decode cX1_hasEnded 14 = .ok (.iconst 1, 1) := by decide +kernel
theorem dX1_hasEnded_15 : decode cX1_hasEnded 15 = .ok (.if_icmp .ne 7, 3) := by decide +kernel
theorem dX1_hasEnded_18 : decode cX1_hasEnded 18 = .ok (.iconst 1, 1) := by decide +kernel
theorem dX1_hasEnded_19 : decode cX1_hasEnded 19 = .ok (.goto 4, 3) := by decide +kernel
theorem dX1_hasEnded_22 : decode cX1_hasEnded 22 = .ok (.iconst 0, 1) := by decide +kernel
theorem dX1_hasEnded_23 : decode cX1_hasEnded 23 = .ok (.ireturn, 1) := by decide +kernel
theorem dX1_snailOn_0 : decode cX1_snailOn 0 = .ok (.iconst 0, 1) := by decide +kernel
theorem dX1_snailOn_1 : decode cX1_snailOn 1 = .ok (.istore_n 3, 1) := by decide +kernel
theorem dX1_snailOn_2 : decode cX1_snailOn 2 = .ok (.iload_n 3, 1) := by decide +kernel
theorem dX1_snailOn_3 : decode cX1_snailOn 3 = .ok (.aload_n 0, 1) := by decide +kernel
theorem dX1_snailOn_4 : decode cX1_snailOn 4 = .ok (.getfield 67, 3) := by decide +kernel
theorem dX1_snailOn_7 : decode cX1_snailOn 7 = .ok (.if_icmp .ge 40, 3) := by decide +kernel
theorem dX1_snailOn_10 : decode cX1_snailOn 10 = .ok (.aload_n 0, 1) := by decide +kernel
theorem dX1_snailOn_11 : decode cX1_snailOn 11 = .ok (.getfield 30, 3) := by decide +kernel
theorem dX1_snailOn_14 : decode cX1_snailOn 14 = .ok (.iload_n 3, 1) := by decide +kernel
theorem dX1_snailOn_15 : decode cX1_snailOn 15 = .ok (.iaload, 1) := by decide +kernel
theorem dX1_snailOn_16 : decode cX1_snailOn 16 = .ok (.ifCond .ne 25, 3) := by decide +kernel
theorem dX1_snailOn_19 : decode cX1_snailOn 19 = .ok (.aload_n 0, 1) := by decide +kernel
theorem dX1_snailOn_20 : decode cX1_snailOn 20 = .ok (.getfield 21, 3) := by decide +kernel
theorem dX1_snailOn_23 : decode cX1_snailOn 23 = .ok (.iload_n 3, 1) := by decide +kernel
theorem dX1_snailOn_24 : decode cX1_snailOn 24 = .ok (.iaload, 1) := by decide +kernel
theorem dX1_snailOn_25 : decode cX1_snailOn 25 = .ok (.iload_n 1, 1) := by decide +kernel
theorem dX1_snailOn_26 : decode cX1_snailOn 26 = .ok (.if_icmp .ne 15, 3) := by decide +kernel
theorem dX1_snailOn_29 : decode cX1_snailOn 29 = .ok (.aload_n 0, 1) := by decide +kernel
theorem dX1_snailOn_30 : decode cX1_snailOn 30 = .ok (.getfield 24, 3) := by decide +kernel
theorem dX1_snailOn_33 : decode cX1_snailOn 33 = .ok (.iload_n 3, 1) := by decide +kernel
theorem dX1_snailOn_34 : decode cX1_snailOn 34 = .ok (.iaload, 1) := by decide +kernel
theorem dX1_snailOn_35 : decode cX1_snailOn 35 = .ok (.iload_n 2, 1) := by decide +kernel
theorem dX1_snailOn_36 : decode cX1_snailOn 36 = .ok (.if_icmp .ne 5, 3) := by decide +kernel
theorem dX1_snailOn_39 : decode cX1_snailOn 39 = .ok (.iload_n 3, 1) := by decide +kernel
theorem dX1_snailOn_40 : decode cX1_snailOn 40 = .ok (.ireturn, 1) := by decide +kernel
theorem dX1_snailOn_41 : decode cX1_snailOn 41 = .ok (.iinc 3 1, 3) := by decide +kernel
theorem dX1_snailOn_44 : decode cX1_snailOn 44 = .ok (.goto (-42), 3) := by decide +kernel
theorem dX1_snailOn_47 : decode cX1_snailOn 47 = .ok (.bipush (-5), 2) := by decide +kernel
theorem dX1_snailOn_49 : decode cX1_snailOn 49 = .ok (.ireturn, 1) := by decide +kernel
theorem dX1_priceOf_0 : decode cX1_priceOf 0 = .ok (.iload_n 1, 1) := by decide +kernel
theorem dX1_priceOf_1 : decode cX1_priceOf 1 = .ok (.ifCond .lt 20, 3) := by decide +kernel
theorem dX1_priceOf_4 : decode cX1_priceOf 4 = .ok (.iload_n 1, 1) := by decide +kernel
theorem dX1_priceOf_5 : decode cX1_priceOf 5 = .ok (.bipush 120, 2) := by decide +kernel
theorem dX1_priceOf_7 : decode cX1_priceOf 7 = .ok (.if_icmp .ge 14, 3) := by decide +kernel
theorem dX1_priceOf_10 : decode cX1_priceOf 10 = .ok (.iconst 1, 1) := by decide +kernel
theorem dX1_priceOf_11 : decode cX1_priceOf 11 = .ok (.aload_n 0, 1) := by decide +kernel
theorem dX1_priceOf_12 : decode cX1_priceOf 12 = .ok (.getfield 9, 3) := by decide +kernel
theorem dX1_priceOf_15 : decode cX1_priceOf 15 = .ok (.iload_n 1, 1) := by decide +kernel
theorem dX1_priceOf_16 : decode cX1_priceOf 16 = .ok (.iaload, 1) := by decide +kernel
theorem dX1_priceOf_17 : decode cX1_priceOf 17 = .ok (.iadd, 1) := by decide +kernel
theorem dX1_priceOf_18 : decode cX1_priceOf 18 = .ok (.goto 5, 3) := by decide +kernel
theorem dX1_priceOf_21 : decode cX1_priceOf 21 = .ok (.bipush (-5), 2) := by decide +kernel
theorem dX1_priceOf_23 : decode cX1_priceOf 23 = .ok (.ireturn, 1) := by decide +kernel
theorem dX1_tellSnail_0 : decode cX1_tellSnail 0 = .ok (.aload_n 0, 1) := by decide +kernel
theorem dX1_tellSnail_1 : decode cX1_tellSnail 1 = .ok (.iload_n 1, 1) := by decide +kernel
theorem dX1_tellSnail_2 : decode cX1_tellSnail 2 = .ok (.invokevirtual 91, 3) := by decide +kernel
theorem dX1_tellSnail_5 : decode cX1_tellSnail 5 = .ok (.ifCond .ne 5, 3) := by decide +kernel
theorem dX1_tellSnail_8 : decode cX1_tellSnail 8 = .ok (.iconst (-1), 1) := by decide +kernel
theorem dX1_tellSnail_9 : decode cX1_tellSnail 9 = .ok (.ireturn, 1) := by decide +kernel
theorem dX1_tellSnail_10 : decode cX1_tellSnail 10 = .ok (.iload_n 2, 1) := by decide +kernel
theorem dX1_tellSnail_11 : decode cX1_tellSnail 11 = .ok (.tableswitch 123 0 9 #[53, 60, 67, 74, 81, 88, 95, 102, 109, 116], 53) := by decide +kernel
theorem dX1_tellSnail_64 : decode cX1_tellSnail 64 = .ok (.aload_n 0, 1) := by decide +kernel
theorem dX1_tellSnail_65 : decode cX1_tellSnail 65 = .ok (.getfield 21, 3) := by decide +kernel
theorem dX1_tellSnail_68 : decode cX1_tellSnail 68 = .ok (.iload_n 1, 1) := by decide +kernel
theorem dX1_tellSnail_69 : decode cX1_tellSnail 69 = .ok (.iaload, 1) := by decide +kernel
theorem dX1_tellSnail_70 : decode cX1_tellSnail 70 = .ok (.ireturn, 1) := by decide +kernel
theorem dX1_tellSnail_71 : decode cX1_tellSnail 71 = .ok (.aload_n 0, 1) := by decide +kernel
theorem dX1_tellSnail_72 : decode cX1_tellSnail 72 = .ok (.getfield 24, 3) := by decide +kernel
theorem dX1_tellSnail_75 : decode cX1_tellSnail 75 = .ok (.iload_n 1, 1) := by decide +kernel
theorem dX1_tellSnail_76 : decode cX1_tellSnail 76 = .ok (.iaload, 1) := by decide +kernel
theorem dX1_tellSnail_77 : decode cX1_tellSnail 77 = .ok (.ireturn, 1) := by decide +kernel
theorem dX1_tellSnail_78 : decode cX1_tellSnail 78 = .ok (.aload_n 0, 1) := by decide +kernel
theorem dX1_tellSnail_79 : decode cX1_tellSnail 79 = .ok (.getfield 27, 3) := by decide +kernel
theorem dX1_tellSnail_82 : decode cX1_tellSnail 82 = .ok (.iload_n 1, 1) := by decide +kernel
theorem dX1_tellSnail_83 : decode cX1_tellSnail 83 = .ok (.iaload, 1) := by decide +kernel
theorem dX1_tellSnail_84 : decode cX1_tellSnail 84 = .ok (.ireturn, 1) := by decide +kernel
theorem dX1_tellSnail_85 : decode cX1_tellSnail 85 = .ok (.aload_n 0, 1) := by decide +kernel
theorem dX1_tellSnail_86 : decode cX1_tellSnail 86 = .ok (.getfield 30, 3) := by decide +kernel
theorem dX1_tellSnail_89 : decode cX1_tellSnail 89 = .ok (.iload_n 1, 1) := by decide +kernel
theorem dX1_tellSnail_90 : decode cX1_tellSnail 90 = .ok (.iaload, 1) := by decide +kernel
theorem dX1_tellSnail_91 : decode cX1_tellSnail 91 = .ok (.ireturn, 1) := by decide +kernel
theorem dX1_tellSnail_92 : decode cX1_tellSnail 92 = .ok (.aload_n 0, 1) := by decide +kernel
theorem dX1_tellSnail_93 : decode cX1_tellSnail 93 = .ok (.getfield 33, 3) := by decide +kernel
theorem dX1_tellSnail_96 : decode cX1_tellSnail 96 = .ok (.iload_n 1, 1) := by decide +kernel
theorem dX1_tellSnail_97 : decode cX1_tellSnail 97 = .ok (.iaload, 1) := by decide +kernel
theorem dX1_tellSnail_98 : decode cX1_tellSnail 98 = .ok (.ireturn, 1) := by decide +kernel
theorem dX1_tellSnail_99 : decode cX1_tellSnail 99 = .ok (.aload_n 0, 1) := by decide +kernel
theorem dX1_tellSnail_100 : decode cX1_tellSnail 100 = .ok (.getfield 36, 3) := by decide +kernel
theorem dX1_tellSnail_103 : decode cX1_tellSnail 103 = .ok (.iload_n 1, 1) := by decide +kernel
theorem dX1_tellSnail_104 : decode cX1_tellSnail 104 = .ok (.iaload, 1) := by decide +kernel
theorem dX1_tellSnail_105 : decode cX1_tellSnail 105 = .ok (.ireturn, 1) := by decide +kernel
theorem dX1_tellSnail_106 : decode cX1_tellSnail 106 = .ok (.aload_n 0, 1) := by decide +kernel
theorem dX1_tellSnail_107 : decode cX1_tellSnail 107 = .ok (.getfield 39, 3) := by decide +kernel
theorem dX1_tellSnail_110 : decode cX1_tellSnail 110 = .ok (.iload_n 1, 1) := by decide +kernel
theorem dX1_tellSnail_111 : decode cX1_tellSnail 111 = .ok (.iaload, 1) := by decide +kernel
theorem dX1_tellSnail_112 : decode cX1_tellSnail 112 = .ok (.ireturn, 1) := by decide +kernel
theorem dX1_tellSnail_113 : decode cX1_tellSnail 113 = .ok (.aload_n 0, 1) := by decide +kernel
theorem dX1_tellSnail_114 : decode cX1_tellSnail 114 = .ok (.getfield 42, 3) := by decide +kernel
theorem dX1_tellSnail_117 : decode cX1_tellSnail 117 = .ok (.iload_n 1, 1) := by decide +kernel
theorem dX1_tellSnail_118 : decode cX1_tellSnail 118 = .ok (.iaload, 1) := by decide +kernel
theorem dX1_tellSnail_119 : decode cX1_tellSnail 119 = .ok (.ireturn, 1) := by decide +kernel
theorem dX1_tellSnail_120 : decode cX1_tellSnail 120 = .ok (.aload_n 0, 1) := by decide +kernel
theorem dX1_tellSnail_121 : decode cX1_tellSnail 121 = .ok (.getfield 45, 3) := by decide +kernel
theorem dX1_tellSnail_124 : decode cX1_tellSnail 124 = .ok (.iload_n 1, 1) := by decide +kernel
theorem dX1_tellSnail_125 : decode cX1_tellSnail 125 = .ok (.iaload, 1) := by decide +kernel
theorem dX1_tellSnail_126 : decode cX1_tellSnail 126 = .ok (.ireturn, 1) := by decide +kernel
theorem dX1_tellSnail_127 : decode cX1_tellSnail 127 = .ok (.aload_n 0, 1) := by decide +kernel
theorem dX1_tellSnail_128 : decode cX1_tellSnail 128 = .ok (.getfield 48, 3) := by decide +kernel
theorem dX1_tellSnail_131 : decode cX1_tellSnail 131 = .ok (.iload_n 1, 1) := by decide +kernel
theorem dX1_tellSnail_132 : decode cX1_tellSnail 132 = .ok (.iaload, 1) := by decide +kernel
theorem dX1_tellSnail_133 : decode cX1_tellSnail 133 = .ok (.ireturn, 1) := by decide +kernel
theorem dX1_tellSnail_134 : decode cX1_tellSnail 134 = .ok (.bipush (-2), 2) := by decide +kernel
theorem dX1_tellSnail_136 : decode cX1_tellSnail 136 = .ok (.ireturn, 1) := by decide +kernel
theorem dX1_tellCell_0 : decode cX1_tellCell 0 = .ok (.iload_n 1, 1) := by decide +kernel
theorem dX1_tellCell_1 : decode cX1_tellCell 1 = .ok (.iload_n 2, 1) := by decide +kernel
theorem dX1_tellCell_2 : decode cX1_tellCell 2 = .ok (.invokestatic 98, 3) := by decide +kernel
theorem dX1_tellCell_5 : decode cX1_tellCell 5 = .ok (.istore 4, 2) := by decide +kernel
theorem dX1_tellCell_7 : decode cX1_tellCell 7 = .ok (.iload 4, 2) := by decide +kernel
theorem dX1_tellCell_9 : decode cX1_tellCell 9 = .ok (.iconst (-1), 1) := by decide +kernel
theorem dX1_tellCell_10 : decode cX1_tellCell 10 = .ok (.if_icmp .ne 5, 3) := by decide +kernel
theorem dX1_tellCell_13 : decode cX1_tellCell 13 = .ok (.iconst (-1), 1) := by decide +kernel
theorem dX1_tellCell_14 : decode cX1_tellCell 14 = .ok (.ireturn, 1) := by decide +kernel
theorem dX1_tellCell_15 : decode cX1_tellCell 15 = .ok (.iload_n 3, 1) := by decide +kernel
theorem dX1_tellCell_16 : decode cX1_tellCell 16 = .ok (.tableswitch 63 0 3 #[32, 40, 48, 56], 32) := by decide +kernel
theorem dX1_tellCell_48 : decode cX1_tellCell 48 = .ok (.aload_n 0, 1) := by decide +kernel
theorem dX1_tellCell_49 : decode cX1_tellCell 49 = .ok (.getfield 9, 3) := by decide +kernel
theorem dX1_tellCell_52 : decode cX1_tellCell 52 = .ok (.iload 4, 2) := by decide +kernel
theorem dX1_tellCell_54 : decode cX1_tellCell 54 = .ok (.iaload, 1) := by decide +kernel
theorem dX1_tellCell_55 : decode cX1_tellCell 55 = .ok (.ireturn, 1) := by decide +kernel
theorem dX1_tellCell_56 : decode cX1_tellCell 56 = .ok (.aload_n 0, 1) := by decide +kernel
theorem dX1_tellCell_57 : decode cX1_tellCell 57 = .ok (.getfield 15, 3) := by decide +kernel
theorem dX1_tellCell_60 : decode cX1_tellCell 60 = .ok (.iload 4, 2) := by decide +kernel
theorem dX1_tellCell_62 : decode cX1_tellCell 62 = .ok (.iaload, 1) := by decide +kernel
theorem dX1_tellCell_63 : decode cX1_tellCell 63 = .ok (.ireturn, 1) := by decide +kernel
theorem dX1_tellCell_64 : decode cX1_tellCell 64 = .ok (.aload_n 0, 1) := by decide +kernel
theorem dX1_tellCell_65 : decode cX1_tellCell 65 = .ok (.getfield 18, 3) := by decide +kernel
theorem dX1_tellCell_68 : decode cX1_tellCell 68 = .ok (.iload 4, 2) := by decide +kernel
theorem dX1_tellCell_70 : decode cX1_tellCell 70 = .ok (.iaload, 1) := by decide +kernel
theorem dX1_tellCell_71 : decode cX1_tellCell 71 = .ok (.ireturn, 1) := by decide +kernel
theorem dX1_tellCell_72 : decode cX1_tellCell 72 = .ok (.aload_n 0, 1) := by decide +kernel
theorem dX1_tellCell_73 : decode cX1_tellCell 73 = .ok (.iload_n 1, 1) := by decide +kernel
theorem dX1_tellCell_74 : decode cX1_tellCell 74 = .ok (.iload_n 2, 1) := by decide +kernel
theorem dX1_tellCell_75 : decode cX1_tellCell 75 = .ok (.invokevirtual 84, 3) := by decide +kernel
theorem dX1_tellCell_78 : decode cX1_tellCell 78 = .ok (.ireturn, 1) := by decide +kernel
theorem dX1_tellCell_79 : decode cX1_tellCell 79 = .ok (.bipush (-2), 2) := by decide +kernel
theorem dX1_tellCell_81 : decode cX1_tellCell 81 = .ok (.ireturn, 1) := by decide +kernel
theorem dX1_tellOwed_0 : decode cX1_tellOwed 0 = .ok (.aload_n 0, 1) := by decide +kernel
theorem dX1_tellOwed_1 : decode cX1_tellOwed 1 = .ok (.iload_n 1, 1) := by decide +kernel
theorem dX1_tellOwed_2 : decode cX1_tellOwed 2 = .ok (.invokevirtual 91, 3) := by decide +kernel
theorem dX1_tellOwed_5 : decode cX1_tellOwed 5 = .ok (.ifCond .eq 11, 3) := by decide +kernel
theorem dX1_tellOwed_8 : decode cX1_tellOwed 8 = .ok (.aload_n 0, 1) := by decide +kernel
theorem dX1_tellOwed_9 : decode cX1_tellOwed 9 = .ok (.iload_n 2, 1) := by decide +kernel
theorem dX1_tellOwed_10 : decode cX1_tellOwed 10 = .ok (.invokevirtual 91, 3) := by decide +kernel
theorem dX1_tellOwed_13 : decode cX1_tellOwed 13 = .ok (.ifCond .ne 5, 3) := by decide +kernel
theorem dX1_tellOwed_16 : decode cX1_tellOwed 16 = .ok (.iconst (-1), 1) := by decide +kernel
theorem dX1_tellOwed_17 : decode cX1_tellOwed 17 = .ok (.ireturn, 1) := by decide +kernel
theorem dX1_tellOwed_18 : decode cX1_tellOwed 18 = .ok (.iload_n 1, 1) := by decide +kernel
theorem dX1_tellOwed_19 : decode cX1_tellOwed 19 = .ok (.iload_n 2, 1) := by decide +kernel
theorem dX1_tellOwed_20 : decode cX1_tellOwed 20 = .ok (.if_icmp .ne 8, 3) := by decide +kernel
theorem dX1_tellOwed_23 : decode cX1_tellOwed 23 = .ok (.bipush (-2), 2) := by decide +kernel
theorem dX1_tellOwed_25 : decode cX1_tellOwed 25 = .ok (.goto 11, 3) := by decide +kernel
theorem dX1_tellOwed_28 : decode cX1_tellOwed 28 = .ok (.aload_n 0, 1) := by decide +kernel
theorem dX1_tellOwed_29 : decode cX1_tellOwed 29 = .ok (.getfield 53, 3) := by decide +kernel
theorem dX1_tellOwed_32 : decode cX1_tellOwed 32 = .ok (.iload_n 1, 1) := by decide +kernel
theorem dX1_tellOwed_33 : decode cX1_tellOwed 33 = .ok (.aaload, 1) := by decide +kernel
theorem dX1_tellOwed_34 : decode cX1_tellOwed 34 = .ok (.iload_n 2, 1) := by decide +kernel
theorem dX1_tellOwed_35 : decode cX1_tellOwed 35 = .ok (.iaload, 1) := by decide +kernel
theorem dX1_tellOwed_36 : decode cX1_tellOwed 36 = .ok (.ireturn, 1) := by decide +kernel
theorem dX1_tellCount_0 : decode cX1_tellCount 0 = .ok (.iload_n 1, 1) := by decide +kernel
theorem dX1_tellCount_1 : decode cX1_tellCount 1 = .ok (.tableswitch 110 0 8 #[51, 56, 61, 67, 73, 78, 86, 94, 102], 51) := by decide +kernel
theorem dX1_tellCount_52 : decode cX1_tellCount 52 = .ok (.aload_n 0, 1) := by decide +kernel
theorem dX1_tellCount_53 : decode cX1_tellCount 53 = .ok (.getfield 71, 3) := by decide +kernel
theorem dX1_tellCount_56 : decode cX1_tellCount 56 = .ok (.ireturn, 1) := by decide +kernel
theorem dX1_tellCount_57 : decode cX1_tellCount 57 = .ok (.aload_n 0, 1) := by decide +kernel
theorem dX1_tellCount_58 : decode cX1_tellCount 58 = .ok (.getfield 67, 3) := by decide +kernel
theorem dX1_tellCount_61 : decode cX1_tellCount 61 = .ok (.ireturn, 1) := by decide +kernel
theorem dX1_tellCount_62 : decode cX1_tellCount 62 = .ok (.aload_n 0, 1) := by decide +kernel
theorem dX1_tellCount_63 : decode cX1_tellCount 63 = .ok (.iconst 0, 1) := by decide +kernel
theorem dX1_tellCount_64 : decode cX1_tellCount 64 = .ok (.invokevirtual 115, 3) := by decide +kernel
theorem dX1_tellCount_67 : decode cX1_tellCount 67 = .ok (.ireturn, 1) := by decide +kernel
theorem dX1_tellCount_68 : decode cX1_tellCount 68 = .ok (.aload_n 0, 1) := by decide +kernel
theorem dX1_tellCount_69 : decode cX1_tellCount 69 = .ok (.iconst 1, 1) := by decide +kernel
theorem dX1_tellCount_70 : decode cX1_tellCount 70 = .ok (.invokevirtual 115, 3) := by decide +kernel
theorem dX1_tellCount_73 : decode cX1_tellCount 73 = .ok (.ireturn, 1) := by decide +kernel
theorem dX1_tellCount_74 : decode cX1_tellCount 74 = .ok (.aload_n 0, 1) := by decide +kernel
theorem dX1_tellCount_75 : decode cX1_tellCount 75 = .ok (.invokevirtual 158, 3) := by decide +kernel
theorem dX1_tellCount_78 : decode cX1_tellCount 78 = .ok (.ireturn, 1) := by decide +kernel
theorem dX1_tellCount_79 : decode cX1_tellCount 79 = .ok (.aload_n 0, 1) := by decide +kernel
theorem dX1_tellCount_80 : decode cX1_tellCount 80 = .ok (.getfield 9, 3) := by decide +kernel
theorem dX1_tellCount_83 : decode cX1_tellCount 83 = .ok (.invokestatic 162, 3) := by decide +kernel
theorem dX1_tellCount_86 : decode cX1_tellCount 86 = .ok (.ireturn, 1) := by decide +kernel
theorem dX1_tellCount_87 : decode cX1_tellCount 87 = .ok (.aload_n 0, 1) := by decide +kernel
theorem dX1_tellCount_88 : decode cX1_tellCount 88 = .ok (.getfield 36, 3) := by decide +kernel
theorem dX1_tellCount_91 : decode cX1_tellCount 91 = .ok (.invokestatic 162, 3) := by decide +kernel
theorem dX1_tellCount_94 : decode cX1_tellCount 94 = .ok (.ireturn, 1) := by decide +kernel
theorem dX1_tellCount_95 : decode cX1_tellCount 95 = .ok (.aload_n 0, 1) := by decide +kernel
theorem dX1_tellCount_96 : decode cX1_tellCount 96 = .ok (.getfield 39, 3) := by decide +kernel
theorem dX1_tellCount_99 : decode cX1_tellCount 99 = .ok (.invokestatic 162, 3) := by decide +kernel
theorem dX1_tellCount_102 : decode cX1_tellCount 102 = .ok (.ireturn, 1) := by decide +kernel
theorem dX1_tellCount_103 : decode cX1_tellCount 103 = .ok (.aload_n 0, 1) := by decide +kernel
theorem dX1_tellCount_104 : decode cX1_tellCount 104 = .ok (.getfield 42, 3) := by decide +kernel
theorem dX1_tellCount_107 : decode cX1_tellCount 107 = .ok (.invokestatic 162, 3) := by decide +kernel
theorem dX1_tellCount_110 : decode cX1_tellCount 110 = .ok (.ireturn, 1) := by decide +kernel
theorem dX1_tellCount_111 : decode cX1_tellCount 111 = .ok (.iload_n 1, 1) := by decide +kernel
theorem dX1_tellCount_112 : decode cX1_tellCount 112 = .ok (.bipush 9, 2) := by decide +kernel
theorem dX1_tellCount_114 : decode cX1_tellCount 114 = .ok (.if_icmp .lt 27, 3) := by decide +kernel
theorem dX1_tellCount_117 : decode cX1_tellCount 117 = .ok (.iload_n 1, 1) := by decide +kernel
theorem dX1_tellCount_118 : decode cX1_tellCount 118 = .ok (.bipush 9, 2) := by decide +kernel
theorem dX1_tellCount_120 : decode cX1_tellCount 120 = .ok (.aload_n 0, 1) := by decide +kernel
theorem dX1_tellCount_121 : decode cX1_tellCount 121 = .ok (.getfield 64, 3) := by decide +kernel
theorem dX1_tellCount_124 : decode cX1_tellCount 124 = .ok (.arraylength, 1) := by decide +kernel
theorem dX1_tellCount_125 : decode cX1_tellCount 125 = .ok (.iadd, 1) := by decide +kernel
theorem dX1_tellCount_126 : decode cX1_tellCount 126 = .ok (.if_icmp .ge 15, 3) := by decide +kernel
theorem dX1_tellCount_129 : decode cX1_tellCount 129 = .ok (.aload_n 0, 1) := by decide +kernel
theorem dX1_tellCount_130 : decode cX1_tellCount 130 = .ok (.getfield 64, 3) := by decide +kernel
theorem dX1_tellCount_133 : decode cX1_tellCount 133 = .ok (.iload_n 1, 1) := by decide +kernel
theorem dX1_tellCount_134 : decode cX1_tellCount 134 = .ok (.bipush 9, 2) := by decide +kernel
theorem dX1_tellCount_136 : decode cX1_tellCount 136 = .ok (.isub, 1) := by decide +kernel
theorem dX1_tellCount_137 : decode cX1_tellCount 137 = .ok (.iaload, 1) := by decide +kernel
theorem dX1_tellCount_138 : decode cX1_tellCount 138 = .ok (.goto 5, 3) := by decide +kernel
theorem dX1_tellCount_141 : decode cX1_tellCount 141 = .ok (.bipush (-2), 2) := by decide +kernel
theorem dX1_tellCount_143 : decode cX1_tellCount 143 = .ok (.ireturn, 1) := by decide +kernel
theorem dX1_howManyAre_0 : decode cX1_howManyAre 0 = .ok (.iconst 0, 1) := by decide +kernel
theorem dX1_howManyAre_1 : decode cX1_howManyAre 1 = .ok (.istore_n 2, 1) := by decide +kernel
theorem dX1_howManyAre_2 : decode cX1_howManyAre 2 = .ok (.iconst 0, 1) := by decide +kernel
theorem dX1_howManyAre_3 : decode cX1_howManyAre 3 = .ok (.istore_n 3, 1) := by decide +kernel
theorem dX1_howManyAre_4 : decode cX1_howManyAre 4 = .ok (.iload_n 3, 1) := by decide +kernel
theorem dX1_howManyAre_5 : decode cX1_howManyAre 5 = .ok (.aload_n 0, 1) := by decide +kernel
theorem dX1_howManyAre_6 : decode cX1_howManyAre 6 = .ok (.getfield 67, 3) := by decide +kernel
theorem dX1_howManyAre_9 : decode cX1_howManyAre 9 = .ok (.if_icmp .ge 22, 3) := by decide +kernel
theorem dX1_howManyAre_12 : decode cX1_howManyAre 12 = .ok (.aload_n 0, 1) := by decide +kernel
theorem dX1_howManyAre_13 : decode cX1_howManyAre 13 = .ok (.getfield 30, 3) := by decide +kernel
theorem dX1_howManyAre_16 : decode cX1_howManyAre 16 = .ok (.iload_n 3, 1) := by decide +kernel
theorem dX1_howManyAre_17 : decode cX1_howManyAre 17 = .ok (.iaload, 1) := by decide +kernel
theorem dX1_howManyAre_18 : decode cX1_howManyAre 18 = .ok (.iload_n 1, 1) := by decide +kernel
theorem dX1_howManyAre_19 : decode cX1_howManyAre 19 = .ok (.if_icmp .ne 6, 3) := by decide +kernel
theorem dX1_howManyAre_22 : decode cX1_howManyAre 22 = .ok (.iinc 2 1, 3) := by decide +kernel
theorem dX1_howManyAre_25 : decode cX1_howManyAre 25 = .ok (.iinc 3 1, 3) := by decide +kernel
theorem dX1_howManyAre_28 : decode cX1_howManyAre 28 = .ok (.goto (-24), 3) := by decide +kernel
theorem dX1_howManyAre_31 : decode cX1_howManyAre 31 = .ok (.iload_n 2, 1) := by decide +kernel
theorem dX1_howManyAre_32 : decode cX1_howManyAre 32 = .ok (.ireturn, 1) := by decide +kernel
theorem dX1_howManyTrails_0 : decode cX1_howManyTrails 0 = .ok (.iconst 0, 1) := by decide +kernel
theorem dX1_howManyTrails_1 : decode cX1_howManyTrails 1 = .ok (.istore_n 1, 1) := by decide +kernel
theorem dX1_howManyTrails_2 : decode cX1_howManyTrails 2 = .ok (.iconst 0, 1) := by decide +kernel
theorem dX1_howManyTrails_3 : decode cX1_howManyTrails 3 = .ok (.istore_n 2, 1) := by decide +kernel
theorem dX1_howManyTrails_4 : decode cX1_howManyTrails 4 = .ok (.iload_n 2, 1) := by decide +kernel
theorem dX1_howManyTrails_5 : decode cX1_howManyTrails 5 = .ok (.bipush 120, 2) := by decide +kernel
theorem dX1_howManyTrails_7 : decode cX1_howManyTrails 7 = .ok (.if_icmp .ge 23, 3) := by decide +kernel
theorem dX1_howManyTrails_10 : decode cX1_howManyTrails 10 = .ok (.aload_n 0, 1) := by decide +kernel
theorem dX1_howManyTrails_11 : decode cX1_howManyTrails 11 = .ok (.getfield 15, 3) := by decide +kernel
theorem dX1_howManyTrails_14 : decode cX1_howManyTrails 14 = .ok (.iload_n 2, 1) := by decide +kernel
theorem dX1_howManyTrails_15 : decode cX1_howManyTrails 15 = .ok (.iaload, 1) := by decide +kernel
theorem dX1_howManyTrails_16 : decode cX1_howManyTrails 16 = .ok (.bipush (-5), 2) := by decide +kernel
theorem dX1_howManyTrails_18 : decode cX1_howManyTrails 18 = .ok (.if_icmp .eq 6, 3) := by decide +kernel
theorem dX1_howManyTrails_21 : decode cX1_howManyTrails 21 = .ok (.iinc 1 1, 3) := by decide +kernel
theorem dX1_howManyTrails_24 : decode cX1_howManyTrails 24 = .ok (.iinc 2 1, 3) := by decide +kernel
theorem dX1_howManyTrails_27 : decode cX1_howManyTrails 27 = .ok (.goto (-23), 3) := by decide +kernel
theorem dX1_howManyTrails_30 : decode cX1_howManyTrails 30 = .ok (.iload_n 1, 1) := by decide +kernel
theorem dX1_howManyTrails_31 : decode cX1_howManyTrails 31 = .ok (.ireturn, 1) := by decide +kernel
theorem dX1_findLeader_0 : decode cX1_findLeader 0 = .ok (.bipush (-5), 2) := by decide +kernel
theorem dX1_findLeader_2 : decode cX1_findLeader 2 = .ok (.istore_n 1, 1) := by decide +kernel
theorem dX1_findLeader_3 : decode cX1_findLeader 3 = .ok (.iconst 0, 1) := by decide +kernel
theorem dX1_findLeader_4 : decode cX1_findLeader 4 = .ok (.istore_n 2, 1) := by decide +kernel
theorem dX1_findLeader_5 : decode cX1_findLeader 5 = .ok (.iload_n 2, 1) := by decide +kernel
theorem dX1_findLeader_6 : decode cX1_findLeader 6 = .ok (.aload_n 0, 1) := by decide +kernel
theorem dX1_findLeader_7 : decode cX1_findLeader 7 = .ok (.getfield 67, 3) := by decide +kernel
theorem dX1_findLeader_10 : decode cX1_findLeader 10 = .ok (.if_icmp .ge 34, 3) := by decide +kernel
theorem dX1_findLeader_13 : decode cX1_findLeader 13 = .ok (.aload_n 0, 1) := by decide +kernel
theorem dX1_findLeader_14 : decode cX1_findLeader 14 = .ok (.iload_n 2, 1) := by decide +kernel
theorem dX1_findLeader_15 : decode cX1_findLeader 15 = .ok (.invokevirtual 95, 3) := by decide +kernel
theorem dX1_findLeader_18 : decode cX1_findLeader 18 = .ok (.ifCond .eq 20, 3) := by decide +kernel
theorem dX1_findLeader_21 : decode cX1_findLeader 21 = .ok (.iload_n 1, 1) := by decide +kernel
theorem dX1_findLeader_22 : decode cX1_findLeader 22 = .ok (.bipush (-5), 2) := by decide +kernel
theorem dX1_findLeader_24 : decode cX1_findLeader 24 = .ok (.if_icmp .eq 12, 3) := by decide +kernel
theorem dX1_findLeader_27 : decode cX1_findLeader 27 = .ok (.aload_n 0, 1) := by decide +kernel
theorem dX1_findLeader_28 : decode cX1_findLeader 28 = .ok (.iload_n 2, 1) := by decide +kernel
theorem dX1_findLeader_29 : decode cX1_findLeader 29 = .ok (.iload_n 1, 1) := by decide +kernel
theorem dX1_findLeader_30 : decode cX1_findLeader 30 = .ok (.invokevirtual 166, 3) := by decide +kernel
theorem dX1_findLeader_33 : decode cX1_findLeader 33 = .ok (.ifCond .eq 5, 3) := by decide +kernel
theorem dX1_findLeader_36 : decode cX1_findLeader 36 = .ok (.iload_n 2, 1) := by decide +kernel
theorem dX1_findLeader_37 : decode cX1_findLeader 37 = .ok (.istore_n 1, 1) := by decide +kernel
theorem dX1_findLeader_38 : decode cX1_findLeader 38 = .ok (.iinc 2 1, 3) := by decide +kernel
theorem dX1_findLeader_41 : decode cX1_findLeader 41 = .ok (.goto (-36), 3) := by decide +kernel
theorem dX1_findLeader_44 : decode cX1_findLeader 44 = .ok (.iload_n 1, 1) := by decide +kernel
theorem dX1_findLeader_45 : decode cX1_findLeader 45 = .ok (.ireturn, 1) := by decide +kernel
theorem dX1_isAhead_0 : decode cX1_isAhead 0 = .ok (.aload_n 0, 1) := by decide +kernel
theorem dX1_isAhead_1 : decode cX1_isAhead 1 = .ok (.getfield 24, 3) := by decide +kernel
theorem dX1_isAhead_4 : decode cX1_isAhead 4 = .ok (.iload_n 1, 1) := by decide +kernel
theorem dX1_isAhead_5 : decode cX1_isAhead 5 = .ok (.iaload, 1) := by decide +kernel
theorem dX1_isAhead_6 : decode cX1_isAhead 6 = .ok (.aload_n 0, 1) := by decide +kernel
theorem dX1_isAhead_7 : decode cX1_isAhead 7 = .ok (.getfield 24, 3) := by decide +kernel
theorem dX1_isAhead_10 : decode cX1_isAhead 10 = .ok (.iload_n 2, 1) := by decide +kernel
theorem dX1_isAhead_11 : decode cX1_isAhead 11 = .ok (.iaload, 1) := by decide +kernel
theorem dX1_isAhead_12 : decode cX1_isAhead 12 = .ok (.if_icmp .eq 24, 3) := by decide +kernel
theorem dX1_isAhead_15 : decode cX1_isAhead 15 = .ok (.aload_n 0, 1) := by decide +kernel
theorem dX1_isAhead_16 : decode cX1_isAhead 16 = .ok (.getfield 24, 3) := by decide +kernel
theorem dX1_isAhead_19 : decode cX1_isAhead 19 = .ok (.iload_n 1, 1) := by decide +kernel
theorem dX1_isAhead_20 : decode cX1_isAhead 20 = .ok (.iaload, 1) := by decide +kernel
theorem dX1_isAhead_21 : decode cX1_isAhead 21 = .ok (.aload_n 0, 1) := by decide +kernel
theorem dX1_isAhead_22 : decode cX1_isAhead 22 = .ok (.getfield 24, 3) := by decide +kernel
theorem dX1_isAhead_25 : decode cX1_isAhead 25 = .ok (.iload_n 2, 1) := by decide +kernel
theorem dX1_isAhead_26 : decode cX1_isAhead 26 = .ok (.iaload, 1) := by decide +kernel
theorem dX1_isAhead_27 : decode cX1_isAhead 27 = .ok (.if_icmp .le 7, 3) := by decide +kernel
theorem dX1_isAhead_30 : decode cX1_isAhead 30 = .ok (.iconst 1, 1) := by decide +kernel
theorem dX1_isAhead_31 : decode cX1_isAhead 31 = .ok (.goto 4, 3) := by decide +kernel
theorem dX1_isAhead_34 : decode cX1_isAhead 34 = .ok (.iconst 0, 1) := by decide +kernel
theorem dX1_isAhead_35 : decode cX1_isAhead 35 = .ok (.ireturn, 1) := by decide +kernel
theorem dX1_isAhead_36 : decode cX1_isAhead 36 = .ok (.aload_n 0, 1) := by decide +kernel
theorem dX1_isAhead_37 : decode cX1_isAhead 37 = .ok (.getfield 27, 3) := by decide +kernel
theorem dX1_isAhead_40 : decode cX1_isAhead 40 = .ok (.iload_n 1, 1) := by decide +kernel
theorem dX1_isAhead_41 : decode cX1_isAhead 41 = .ok (.iaload, 1) := by decide +kernel
theorem dX1_isAhead_42 : decode cX1_isAhead 42 = .ok (.aload_n 0, 1) := by decide +kernel
theorem dX1_isAhead_43 : decode cX1_isAhead 43 = .ok (.getfield 27, 3) := by decide +kernel
theorem dX1_isAhead_46 : decode cX1_isAhead 46 = .ok (.iload_n 2, 1) := by decide +kernel
theorem dX1_isAhead_47 : decode cX1_isAhead 47 = .ok (.iaload, 1) := by decide +kernel
theorem dX1_isAhead_48 : decode cX1_isAhead 48 = .ok (.if_icmp .le 7, 3) := by decide +kernel
theorem dX1_isAhead_51 : decode cX1_isAhead 51 = .ok (.iconst 1, 1) := by decide +kernel
theorem dX1_isAhead_52 : decode cX1_isAhead 52 = .ok (.goto 4, 3) := by decide +kernel
theorem dX1_isAhead_55 : decode cX1_isAhead 55 = .ok (.iconst 0, 1) := by decide +kernel
theorem dX1_isAhead_56 : decode cX1_isAhead 56 = .ok (.ireturn, 1) := by decide +kernel
theorem dX2_init_0 : decode cX2_init 0 = .ok (.aload_n 0, 1) := by decide +kernel
theorem dX2_init_1 : decode cX2_init 1 = .ok (.invokespecial 3, 3) := by decide +kernel
theorem dX2_init_4 : decode cX2_init 4 = .ok (.aload_n 0, 1) := by decide +kernel
theorem dX2_init_5 : decode cX2_init 5 = .ok (.bipush 60, 2) := by decide +kernel
theorem dX2_init_7 : decode cX2_init 7 = .ok (.newarray .char, 2) := by decide +kernel
theorem dX2_init_9 : decode cX2_init 9 = .ok (.putfield 9, 3) := by decide +kernel
theorem dX2_init_12 : decode cX2_init 12 = .ok (.aload_n 0, 1) := by decide +kernel
theorem dX2_init_13 : decode cX2_init 13 = .ok (.iconst 0, 1) := by decide +kernel
theorem dX2_init_14 : decode cX2_init 14 = .ok (.putfield 15, 3) := by decide +kernel
theorem dX2_init_17 : decode cX2_init 17 = .ok (.aload_n 0, 1) := by decide +kernel
theorem dX2_init_18 : decode cX2_init 18 = .ok (.iconst 0, 1) := by decide +kernel
theorem dX2_init_19 : decode cX2_init 19 = .ok (.putfield 19, 3) := by decide +kernel
theorem dX2_init_22 : decode cX2_init 22 = .ok (.aload_n 0, 1) := by decide +kernel
theorem dX2_init_23 : decode cX2_init 23 = .ok (.iconst 0, 1) := by decide +kernel
theorem dX2_init_24 : decode cX2_init 24 = .ok (.putfield 22, 3) := by decide +kernel
theorem dX2_init_27 : decode cX2_init 27 = .ok (.aload_n 0, 1) := by decide +kernel
theorem dX2_init_28 : decode cX2_init 28 = .ok (.bipush 21, 2) := by decide +kernel
theorem dX2_init_30 : decode cX2_init 30 = .ok (.newarray .int, 2) := by decide +kernel
theorem dX2_init_32 : decode cX2_init 32 = .ok (.putfield 25, 3) := by decide +kernel
theorem dX2_init_35 : decode cX2_init 35 = .ok (.aload_n 0, 1) := by decide +kernel
theorem dX2_init_36 : decode cX2_init 36 = .ok (.bipush 21, 2) := by decide +kernel
theorem dX2_init_38 : decode cX2_init 38 = .ok (.newarray .int, 2) := by decide +kernel
theorem dX2_init_40 : decode cX2_init 40 = .ok (.putfield 29, 3) := by decide +kernel
theorem dX2_init_43 : decode cX2_init 43 = .ok (.aload_n 0, 1) := by decide +kernel
theorem dX2_init_44 : decode cX2_init 44 = .ok (.bipush 21, 2) := by decide +kernel
theorem dX2_init_46 : decode cX2_init 46 = .ok (.newarray .int, 2) := by decide +kernel
theorem dX2_init_48 : decode cX2_init 48 = .ok (.putfield 32, 3) := by decide +kernel
theorem dX2_init_51 : decode cX2_init 51 = .ok (.aload_n 0, 1) := by decide +kernel
theorem dX2_init_52 : decode cX2_init 52 = .ok (.bipush 21, 2) := by decide +kernel
theorem dX2_init_54 : decode cX2_init 54 = .ok (.newarray .int, 2) := by decide +kernel
theorem dX2_init_56 : decode cX2_init 56 = .ok (.putfield 35, 3) := by decide +kernel
theorem dX2_init_59 : decode cX2_init 59 = .ok (.return_, 1) := by decide +kernel
theorem dX2_append_0 : decode cX2_append 0 = .ok (.aload_n 0, 1) := by decide +kernel
theorem dX2_append_1 : decode cX2_append 1 = .ok (.getfield 15, 3) := by decide +kernel
theorem dX2_append_4 : decode cX2_append 4 = .ok (.ifCond .lt 12, 3) := by decide +kernel
theorem dX2_append_7 : decode cX2_append 7 = .ok (.aload_n 0, 1) := by decide +kernel
theorem dX2_append_8 : decode cX2_append 8 = .ok (.getfield 15, 3) := by decide +kernel
theorem dX2_append_11 : decode cX2_append 11 = .ok (.bipush 60, 2) := by decide +kernel
theorem dX2_append_13 : decode cX2_append 13 = .ok (.if_icmp .lt 6, 3) := by decide +kernel
theorem dX2_append_16 : decode cX2_append 16 = .ok (.bipush (-3), 2) := by decide +kernel
theorem dX2_append_18 : decode cX2_append 18 = .ok (.ireturn, 1) := by decide +kernel
theorem dX2_append_19 : decode cX2_append 19 = .ok (.aload_n 0, 1) := by decide +kernel
theorem dX2_append_20 : decode cX2_append 20 = .ok (.getfield 9, 3) := by decide +kernel
theorem dX2_append_23 : decode cX2_append 23 = .ok (.aload_n 0, 1) := by decide +kernel
theorem dX2_append_24 : decode cX2_append 24 = .ok (.getfield 15, 3) := by decide +kernel
theorem dX2_append_27 : decode cX2_append 27 = .ok (.iload_n 1, 1) := by decide +kernel
theorem dX2_append_28 : decode cX2_append 28 = .ok (.castore, 1) := by decide +kernel
theorem dX2_append_29 : decode cX2_append 29 = .ok (.aload_n 0, 1) := by decide +kernel
theorem dX2_append_30 : decode cX2_append 30 = .ok (.dup, 1) := by decide +kernel
theorem dX2_append_31 : decode cX2_append 31 = .ok (.getfield 15, 3) := by decide +kernel
theorem dX2_append_34 : decode cX2_append 34 = .ok (.iconst 1, 1) := by decide +kernel
theorem dX2_append_35 : decode cX2_append 35 = .ok (.iadd, 1) := by decide +kernel
theorem dX2_append_36 : decode cX2_append 36 = .ok (.putfield 15, 3) := by decide +kernel
theorem dX2_append_39 : decode cX2_append 39 = .ok (.aload_n 0, 1) := by decide +kernel
theorem dX2_append_40 : decode cX2_append 40 = .ok (.getfield 15, 3) := by decide +kernel
theorem dX2_append_43 : decode cX2_append 43 = .ok (.ireturn, 1) := by decide +kernel
theorem dX2_empty_0 : decode cX2_empty 0 = .ok (.aload_n 0, 1) := by decide +kernel
theorem dX2_empty_1 : decode cX2_empty 1 = .ok (.getfield 15, 3) := by decide +kernel
theorem dX2_empty_4 : decode cX2_empty 4 = .ok (.istore_n 1, 1) := by decide +kernel
theorem dX2_empty_5 : decode cX2_empty 5 = .ok (.aload_n 0, 1) := by decide +kernel
theorem dX2_empty_6 : decode cX2_empty 6 = .ok (.iconst 0, 1) := by decide +kernel
theorem dX2_empty_7 : decode cX2_empty 7 = .ok (.putfield 15, 3) := by decide +kernel
theorem dX2_empty_10 : decode cX2_empty 10 = .ok (.iload_n 1, 1) := by decide +kernel
theorem dX2_empty_11 : decode cX2_empty 11 = .ok (.ireturn, 1) := by decide +kernel
theorem dX2_read_0 : decode cX2_read 0 = .ok (.aload_n 0, 1) := by decide +kernel
theorem dX2_read_1 : decode cX2_read 1 = .ok (.iconst 0, 1) := by decide +kernel
theorem dX2_read_2 : decode cX2_read 2 = .ok (.putfield 19, 3) := by decide +kernel
theorem dX2_read_5 : decode cX2_read 5 = .ok (.aload_n 0, 1) := by decide +kernel
theorem dX2_read_6 : decode cX2_read 6 = .ok (.iconst 0, 1) := by decide +kernel
theorem dX2_read_7 : decode cX2_read 7 = .ok (.putfield 22, 3) := by decide +kernel
theorem dX2_read_10 : decode cX2_read 10 = .ok (.iconst 0, 1) := by decide +kernel
theorem dX2_read_11 : decode cX2_read 11 = .ok (.istore_n 1, 1) := by decide +kernel
theorem dX2_read_12 : decode cX2_read 12 = .ok (.iload_n 1, 1) := by decide +kernel
theorem dX2_read_13 : decode cX2_read 13 = .ok (.bipush 21, 2) := by decide +kernel
theorem dX2_read_15 : decode cX2_read 15 = .ok (.if_icmp .ge 59, 3) := by decide +kernel
theorem dX2_read_18 : decode cX2_read 18 = .ok (.aload_n 0, 1) := by decide +kernel
theorem dX2_read_19 : decode cX2_read 19 = .ok (.iload_n 1, 1) := by decide +kernel
theorem dX2_read_20 : decode cX2_read 20 = .ok (.invokevirtual 38, 3) := by decide +kernel
theorem dX2_read_23 : decode cX2_read 23 = .ok (.ifCond .ne 8, 3) := by decide +kernel
theorem dX2_read_26 : decode cX2_read 26 = .ok (.aload_n 0, 1) := by decide +kernel
theorem dX2_read_27 : decode cX2_read 27 = .ok (.getfield 19, 3) := by decide +kernel
theorem dX2_read_30 : decode cX2_read 30 = .ok (.ireturn, 1) := by decide +kernel
theorem dX2_read_31 : decode cX2_read 31 = .ok (.aload_n 0, 1) := by decide +kernel
theorem dX2_read_32 : decode cX2_read 32 = .ok (.dup, 1) := by decide +kernel
theorem dX2_read_33 : decode cX2_read 33 = .ok (.getfield 22, 3) := by decide +kernel
theorem dX2_read_36 : decode cX2_read 36 = .ok (.iconst 1, 1) := by decide +kernel
theorem dX2_read_37 : decode cX2_read 37 = .ok (.iadd, 1) := by decide +kernel
theorem dX2_read_38 : decode cX2_read 38 = .ok (.putfield 22, 3) := by decide +kernel
theorem dX2_read_41 : decode cX2_read 41 = .ok (.aload_n 0, 1) := by decide +kernel
theorem dX2_read_42 : decode cX2_read 42 = .ok (.getfield 19, 3) := by decide +kernel
theorem dX2_read_45 : decode cX2_read 45 = .ok (.aload_n 0, 1) := by decide +kernel
theorem dX2_read_46 : decode cX2_read 46 = .ok (.getfield 15, 3) := by decide +kernel
theorem dX2_read_49 : decode cX2_read 49 = .ok (.if_icmp .ne 5, 3) := by decide +kernel
theorem dX2_read_52 : decode cX2_read 52 = .ok (.iconst (-1), 1) := by decide +kernel
theorem dX2_read_53 : decode cX2_read 53 = .ok (.ireturn, 1) := by decide +kernel
theorem dX2_read_54 : decode cX2_read 54 = .ok (.aload_n 0, 1) := by decide +kernel
theorem dX2_read_55 : decode cX2_read 55 = .ok (.bipush 59, 2) := by decide +kernel
theorem dX2_read_57 : decode cX2_read 57 = .ok (.invokevirtual 42, 3) := by decide +kernel
theorem dX2_read_60 : decode cX2_read 60 = .ok (.ifCond .ne 8, 3) := by decide +kernel
theorem dX2_read_63 : decode cX2_read 63 = .ok (.aload_n 0, 1) := by decide +kernel
theorem dX2_read_64 : decode cX2_read 64 = .ok (.getfield 19, 3) := by decide +kernel
theorem dX2_read_67 : decode cX2_read 67 = .ok (.ireturn, 1) := by decide +kernel
theorem dX2_read_68 : decode cX2_read 68 = .ok (.iinc 1 1, 3) := by decide +kernel
theorem dX2_read_71 : decode cX2_read 71 = .ok (.goto (-59), 3) := by decide +kernel
theorem dX2_read_74 : decode cX2_read 74 = .ok (.aload_n 0, 1) := by decide +kernel
theorem dX2_read_75 : decode cX2_read 75 = .ok (.getfield 19, 3) := by decide +kernel
theorem dX2_read_78 : decode cX2_read 78 = .ok (.ireturn, 1) := by decide +kernel
theorem dX2_readThing_0 : decode cX2_readThing 0 = .ok (.aload_n 0, 1) := by decide +kernel
theorem dX2_readThing_1 : decode cX2_readThing 1 = .ok (.invokevirtual 46, 3) := by decide +kernel
theorem dX2_readThing_4 : decode cX2_readThing 4 = .ok (.istore_n 2, 1) := by decide +kernel
theorem dX2_readThing_5 : decode cX2_readThing 5 = .ok (.iload_n 1, 1) := by decide +kernel
theorem dX2_readThing_6 : decode cX2_readThing 6 = .ok (.ifCond .lt 14, 3) := by decide +kernel
theorem dX2_readThing_9 : decode cX2_readThing 9 = .ok (.iload_n 1, 1) := by decide +kernel
theorem dX2_readThing_10 : decode cX2_readThing 10 = .ok (.bipush 21, 2) := by decide +kernel
theorem dX2_readThing_12 : decode cX2_readThing 12 = .ok (.if_icmp .ge 8, 3) := by decide +kernel
theorem dX2_readThing_15 : decode cX2_readThing 15 = .ok (.iload_n 2, 1) := by decide +kernel
theorem dX2_readThing_16 : decode cX2_readThing 16 = .ok (.iconst (-1), 1) := by decide +kernel
theorem dX2_readThing_17 : decode cX2_readThing 17 = .ok (.if_icmp .ne 5, 3) := by decide +kernel
theorem dX2_readThing_20 : decode cX2_readThing 20 = .ok (.iconst 0, 1) := by decide +kernel
theorem dX2_readThing_21 : decode cX2_readThing 21 = .ok (.ireturn, 1) := by decide +kernel
theorem dX2_readThing_22 : decode cX2_readThing 22 = .ok (.aload_n 0, 1) := by decide +kernel
theorem dX2_readThing_23 : decode cX2_readThing 23 = .ok (.getfield 25, 3) := by decide +kernel
theorem dX2_readThing_26 : decode cX2_readThing 26 = .ok (.iload_n 1, 1) := by decide +kernel
theorem dX2_readThing_27 : decode cX2_readThing 27 = .ok (.iload_n 2, 1) := by decide +kernel
theorem dX2_readThing_28 : decode cX2_readThing 28 = .ok (.iastore, 1) := by decide +kernel
theorem dX2_readThing_29 : decode cX2_readThing 29 = .ok (.iload_n 2, 1) := by decide +kernel
theorem dX2_readThing_30 : decode cX2_readThing 30 = .ok (.lookupswitch 189 #[(46, 166), (102, 88), (115, 34)], 34) := by decide +kernel
theorem dX2_readThing_64 : decode cX2_readThing 64 = .ok (.aload_n 0, 1) := by decide +kernel
theorem dX2_readThing_65 : decode cX2_readThing 65 = .ok (.dup, 1) := by decide +kernel
theorem dX2_readThing_66 : decode cX2_readThing 66 = .ok (.getfield 19, 3) := by decide +kernel
theorem dX2_readThing_69 : decode cX2_readThing 69 = .ok (.iconst 1, 1) := by decide +kernel
theorem dX2_readThing_70 : decode cX2_readThing 70 = .ok (.iadd, 1) := by decide +kernel
theorem dX2_readThing_71 : decode cX2_readThing 71 = .ok (.putfield 19, 3) := by decide +kernel
theorem dX2_readThing_74 : decode cX2_readThing 74 = .ok (.aload_n 0, 1) := by decide +kernel
theorem dX2_readThing_75 : decode cX2_readThing 75 = .ok (.aload_n 0, 1) := by decide +kernel
theorem dX2_readThing_76 : decode cX2_readThing 76 = .ok (.getfield 29, 3) := by decide +kernel
theorem dX2_readThing_79 : decode cX2_readThing 79 = .ok (.iload_n 1, 1) := by decide +kernel
theorem dX2_readThing_80 : decode cX2_readThing 80 = .ok (.iconst 0, 1) := by decide +kernel
theorem dX2_readThing_81 : decode cX2_readThing 81 = .ok (.iconst 5, 1) := by decide +kernel
theorem dX2_readThing_82 : decode cX2_readThing 82 = .ok (.invokevirtual 50, 3) := by decide +kernel
theorem dX2_readThing_85 : decode cX2_readThing 85 = .ok (.ifCond .eq 31, 3) := by decide +kernel
theorem dX2_readThing_88 : decode cX2_readThing 88 = .ok (.aload_n 0, 1) := by decide +kernel
theorem dX2_readThing_89 : decode cX2_readThing 89 = .ok (.bipush 42, 2) := by decide +kernel
theorem dX2_readThing_91 : decode cX2_readThing 91 = .ok (.invokevirtual 42, 3) := by decide +kernel
theorem dX2_readThing_94 : decode cX2_readThing 94 = .ok (.ifCond .eq 22, 3) := by decide +kernel
theorem dX2_readThing_97 : decode cX2_readThing 97 = .ok (.aload_n 0, 1) := by decide +kernel
theorem dX2_readThing_98 : decode cX2_readThing 98 = .ok (.aload_n 0, 1) := by decide +kernel
theorem dX2_readThing_99 : decode cX2_readThing 99 = .ok (.getfield 35, 3) := by decide +kernel
theorem dX2_readThing_102 : decode cX2_readThing 102 = .ok (.iload_n 1, 1) := by decide +kernel
theorem dX2_readThing_103 : decode cX2_readThing 103 = .ok (.iconst 0, 1) := by decide +kernel
theorem dX2_readThing_104 : decode cX2_readThing 104 = .ok (.bipush 99, 2) := by decide +kernel
theorem dX2_readThing_106 : decode cX2_readThing 106 = .ok (.invokevirtual 50, 3) := by decide +kernel
theorem dX2_readThing_109 : decode cX2_readThing 109 = .ok (.ifCond .eq 7, 3) := by decide +kernel
theorem dX2_readThing_112 : decode cX2_readThing 112 = .ok (.iconst 1, 1) := by decide +kernel
theorem dX2_readThing_113 : decode cX2_readThing 113 = .ok (.goto 4, 3) := by decide +kernel
theorem dX2_readThing_116 : decode cX2_readThing 116 = .ok (.iconst 0, 1) := by decide +kernel
theorem dX2_readThing_117 : decode cX2_readThing 117 = .ok (.ireturn, 1) := by decide +kernel
theorem dX2_readThing_118 : decode cX2_readThing 118 = .ok (.aload_n 0, 1) := by decide +kernel
theorem dX2_readThing_119 : decode cX2_readThing 119 = .ok (.dup, 1) := by decide +kernel
theorem dX2_readThing_120 : decode cX2_readThing 120 = .ok (.getfield 19, 3) := by decide +kernel
theorem dX2_readThing_123 : decode cX2_readThing 123 = .ok (.iconst 1, 1) := by decide +kernel
theorem dX2_readThing_124 : decode cX2_readThing 124 = .ok (.iadd, 1) := by decide +kernel
theorem dX2_readThing_125 : decode cX2_readThing 125 = .ok (.putfield 19, 3) := by decide +kernel
theorem dX2_readThing_128 : decode cX2_readThing 128 = .ok (.aload_n 0, 1) := by decide +kernel
theorem dX2_readThing_129 : decode cX2_readThing 129 = .ok (.aload_n 0, 1) := by decide +kernel
theorem dX2_readThing_130 : decode cX2_readThing 130 = .ok (.getfield 29, 3) := by decide +kernel
theorem dX2_readThing_133 : decode cX2_readThing 133 = .ok (.iload_n 1, 1) := by decide +kernel
theorem dX2_readThing_134 : decode cX2_readThing 134 = .ok (.iconst 0, 1) := by decide +kernel
theorem dX2_readThing_135 : decode cX2_readThing 135 = .ok (.iconst 5, 1) := by decide +kernel
theorem dX2_readThing_136 : decode cX2_readThing 136 = .ok (.invokevirtual 50, 3) := by decide +kernel
theorem dX2_readThing_139 : decode cX2_readThing 139 = .ok (.ifCond .eq 55, 3) := by decide +kernel
theorem dX2_readThing_142 : decode cX2_readThing 142 = .ok (.aload_n 0, 1) := by decide +kernel
theorem dX2_readThing_143 : decode cX2_readThing 143 = .ok (.bipush 46, 2) := by decide +kernel
theorem dX2_readThing_145 : decode cX2_readThing 145 = .ok (.invokevirtual 42, 3) := by decide +kernel
theorem dX2_readThing_148 : decode cX2_readThing 148 = .ok (.ifCond .eq 46, 3) := by decide +kernel
theorem dX2_readThing_151 : decode cX2_readThing 151 = .ok (.aload_n 0, 1) := by decide +kernel
theorem dX2_readThing_152 : decode cX2_readThing 152 = .ok (.aload_n 0, 1) := by decide +kernel
theorem dX2_readThing_153 : decode cX2_readThing 153 = .ok (.getfield 32, 3) := by decide +kernel
theorem dX2_readThing_156 : decode cX2_readThing 156 = .ok (.iload_n 1, 1) := by decide +kernel
theorem dX2_readThing_157 : decode cX2_readThing 157 = .ok (.iconst 0, 1) := by decide +kernel
theorem dX2_readThing_158 : decode cX2_readThing 158 = .ok (.bipush 19, 2) := by decide +kernel
theorem dX2_readThing_160 : decode cX2_readThing 160 = .ok (.invokevirtual 50, 3) := by decide +kernel
theorem dX2_readThing_163 : decode cX2_readThing 163 = .ok (.ifCond .eq 31, 3) := by decide +kernel
theorem dX2_readThing_166 : decode cX2_readThing 166 = .ok (.aload_n 0, 1) := by decide +kernel
theorem dX2_readThing_167 : decode cX2_readThing 167 = .ok (.bipush 61, 2) := by decide +kernel
theorem dX2_readThing_169 : decode cX2_readThing 169 = .ok (.invokevirtual 42, 3) := by decide +kernel
theorem dX2_readThing_172 : decode cX2_readThing 172 = .ok (.ifCond .eq 22, 3) := by decide +kernel
theorem dX2_readThing_175 : decode cX2_readThing 175 = .ok (.aload_n 0, 1) := by decide +kernel
theorem dX2_readThing_176 : decode cX2_readThing 176 = .ok (.aload_n 0, 1) := by decide +kernel
theorem dX2_readThing_177 : decode cX2_readThing 177 = .ok (.getfield 35, 3) := by decide +kernel
theorem dX2_readThing_180 : decode cX2_readThing 180 = .ok (.iload_n 1, 1) := by decide +kernel
theorem dX2_readThing_181 : decode cX2_readThing 181 = .ok (.iconst 0, 1) := by decide +kernel
theorem dX2_readThing_182 : decode cX2_readThing 182 = .ok (.bipush 9, 2) := by decide +kernel
theorem dX2_readThing_184 : decode cX2_readThing 184 = .ok (.invokevirtual 50, 3) := by decide +kernel
theorem dX2_readThing_187 : decode cX2_readThing 187 = .ok (.ifCond .eq 7, 3) := by decide +kernel
theorem dX2_readThing_190 : decode cX2_readThing 190 = .ok (.iconst 1, 1) := by decide +kernel
theorem dX2_readThing_191 : decode cX2_readThing 191 = .ok (.goto 4, 3) := by decide +kernel
theorem dX2_readThing_194 : decode cX2_readThing 194 = .ok (.iconst 0, 1) := by decide +kernel
theorem dX2_readThing_195 : decode cX2_readThing 195 = .ok (.ireturn, 1) := by decide +kernel
theorem dX2_readThing_196 : decode cX2_readThing 196 = .ok (.aload_n 0, 1) := by decide +kernel
theorem dX2_readThing_197 : decode cX2_readThing 197 = .ok (.dup, 1) := by decide +kernel
theorem dX2_readThing_198 : decode cX2_readThing 198 = .ok (.getfield 19, 3) := by decide +kernel
theorem dX2_readThing_201 : decode cX2_readThing 201 = .ok (.iconst 1, 1) := by decide +kernel
theorem dX2_readThing_202 : decode cX2_readThing 202 = .ok (.iadd, 1) := by decide +kernel
theorem dX2_readThing_203 : decode cX2_readThing 203 = .ok (.putfield 19, 3) := by decide +kernel
theorem dX2_readThing_206 : decode cX2_readThing 206 = .ok (.aload_n 0, 1) := by decide +kernel
theorem dX2_readThing_207 : decode cX2_readThing 207 = .ok (.aload_n 0, 1) := by decide +kernel
theorem dX2_readThing_208 : decode cX2_readThing 208 = .ok (.getfield 35, 3) := by decide +kernel
theorem dX2_readThing_211 : decode cX2_readThing 211 = .ok (.iload_n 1, 1) := by decide +kernel
theorem dX2_readThing_212 : decode cX2_readThing 212 = .ok (.iconst 1, 1) := by decide +kernel
theorem dX2_readThing_213 : decode cX2_readThing 213 = .ok (.bipush 99, 2) := by decide +kernel
theorem dX2_readThing_215 : decode cX2_readThing 215 = .ok (.invokevirtual 50, 3) := by decide +kernel
theorem dX2_readThing_218 : decode cX2_readThing 218 = .ok (.ireturn, 1) := by decide +kernel
theorem dX2_readThing_219 : decode cX2_readThing 219 = .ok (.iconst 0, 1) := by decide +kernel
theorem dX2_readThing_220 : decode cX2_readThing 220 = .ok (.ireturn, 1) := by decide +kernel
theorem dX2_readSign_0 : decode cX2_readSign 0 = .ok (.aload_n 0, 1) := by decide +kernel
theorem dX2_readSign_1 : decode cX2_readSign 1 = .ok (.invokevirtual 46, 3) := by decide +kernel
theorem dX2_readSign_4 : decode cX2_readSign 4 = .ok (.iload_n 1, 1) := by decide +kernel
theorem dX2_readSign_5 : decode cX2_readSign 5 = .ok (.if_icmp .eq 5, 3) := by decide +kernel
theorem dX2_readSign_8 : decode cX2_readSign 8 = .ok (.iconst 0, 1) := by decide +kernel
theorem dX2_readSign_9 : decode cX2_readSign 9 = .ok (.ireturn, 1) := by decide +kernel
theorem dX2_readSign_10 : decode cX2_readSign 10 = .ok (.aload_n 0, 1) := by decide +kernel
theorem dX2_readSign_11 : decode cX2_readSign 11 = .ok (.dup, 1) := by decide +kernel
theorem dX2_readSign_12 : decode cX2_readSign 12 = .ok (.getfield 19, 3) := by decide +kernel
theorem dX2_readSign_15 : decode cX2_readSign 15 = .ok (.iconst 1, 1) := by decide +kernel
theorem dX2_readSign_16 : decode cX2_readSign 16 = .ok (.iadd, 1) := by decide +kernel
theorem dX2_readSign_17 : decode cX2_readSign 17 = .ok (.putfield 19, 3) := by decide +kernel
theorem dX2_readSign_20 : decode cX2_readSign 20 = .ok (.iconst 1, 1) := by decide +kernel
theorem dX2_readSign_21 : decode cX2_readSign 21 = .ok (.ireturn, 1) := by decide +kernel
theorem dX2_readNumber_0 : decode cX2_readNumber 0 = .ok (.aload_n 0, 1) := by decide +kernel
theorem dX2_readNumber_1 : decode cX2_readNumber 1 = .ok (.invokevirtual 54, 3) := by decide +kernel
theorem dX2_readNumber_4 : decode cX2_readNumber 4 = .ok (.istore 5, 2) := by decide +kernel
theorem dX2_readNumber_6 : decode cX2_readNumber 6 = .ok (.iload 5, 2) := by decide +kernel
theorem dX2_readNumber_8 : decode cX2_readNumber 8 = .ok (.iload_n 3, 1) := by decide +kernel
theorem dX2_readNumber_9 : decode cX2_readNumber 9 = .ok (.if_icmp .lt 20, 3) := by decide +kernel
theorem dX2_readNumber_12 : decode cX2_readNumber 12 = .ok (.iload 5, 2) := by decide +kernel
theorem dX2_readNumber_14 : decode cX2_readNumber 14 = .ok (.iload 4, 2) := by decide +kernel
theorem dX2_readNumber_16 : decode cX2_readNumber 16 = .ok (.if_icmp .gt 13, 3) := by decide +kernel
theorem dX2_readNumber_19 : decode cX2_readNumber 19 = .ok (.iload_n 2, 1) := by decide +kernel
theorem dX2_readNumber_20 : decode cX2_readNumber 20 = .ok (.ifCond .lt 9, 3) := by decide +kernel
theorem dX2_readNumber_23 : decode cX2_readNumber 23 = .ok (.iload_n 2, 1) := by decide +kernel
theorem dX2_readNumber_24 : decode cX2_readNumber 24 = .ok (.aload_n 1, 1) := by decide +kernel
theorem dX2_readNumber_25 : decode cX2_readNumber 25 = .ok (.arraylength, 1) := by decide +kernel
theorem dX2_readNumber_26 : decode cX2_readNumber 26 = .ok (.if_icmp .lt 5, 3) := by decide +kernel
theorem dX2_readNumber_29 : decode cX2_readNumber 29 = .ok (.iconst 0, 1) := by decide +kernel
theorem dX2_readNumber_30 : decode cX2_readNumber 30 = .ok (.ireturn, 1) := by decide +kernel
theorem dX2_readNumber_31 : decode cX2_readNumber 31 = .ok (.aload_n 0, 1) := by decide +kernel
theorem dX2_readNumber_32 : decode cX2_readNumber 32 = .ok (.dup, 1) := by decide +kernel
theorem dX2_readNumber_33 : decode cX2_readNumber 33 = .ok (.getfield 19, 3) := by decide +kernel
theorem dX2_readNumber_36 : decode cX2_readNumber 36 = .ok (.iconst 1, 1) := by decide +kernel
theorem dX2_readNumber_37 : decode cX2_readNumber 37 = .ok (.iadd, 1) := by decide +kernel
theorem dX2_readNumber_38 : decode cX2_readNumber 38 = .ok (.putfield 19, 3) := by decide +kernel
theorem dX2_readNumber_41 : decode cX2_readNumber 41 = .ok (.aload_n 0, 1) := by decide +kernel
theorem dX2_readNumber_42 : decode cX2_readNumber 42 = .ok (.invokevirtual 54, 3) := by decide +kernel
theorem dX2_readNumber_45 : decode cX2_readNumber 45 = .ok (.istore 6, 2) := by decide +kernel
theorem dX2_readNumber_47 : decode cX2_readNumber 47 = .ok (.iload 5, 2) := by decide +kernel
theorem dX2_readNumber_49 : decode cX2_readNumber 49 = .ok (.ifCond .le 41, 3) := by decide +kernel
theorem dX2_readNumber_52 : decode cX2_readNumber 52 = .ok (.iload 6, 2) := by decide +kernel
theorem dX2_readNumber_54 : decode cX2_readNumber 54 = .ok (.ifCond .lt 36, 3) := by decide +kernel
theorem dX2_readNumber_57 : decode cX2_readNumber 57 = .ok (.iload 5, 2) := by decide +kernel
theorem dX2_readNumber_59 : decode cX2_readNumber 59 = .ok (.bipush 10, 2) := by decide +kernel
theorem dX2_readNumber_61 : decode cX2_readNumber 61 = .ok (.imul, 1) := by decide +kernel
theorem dX2_readNumber_62 : decode cX2_readNumber 62 = .ok (.iload 6, 2) := by decide +kernel
theorem dX2_readNumber_64 : decode cX2_readNumber 64 = .ok (.iadd, 1) := by decide +kernel
theorem dX2_readNumber_65 : decode cX2_readNumber 65 = .ok (.iload 4, 2) := by decide +kernel
theorem dX2_readNumber_67 : decode cX2_readNumber 67 = .ok (.if_icmp .gt 23, 3) := by decide +kernel
theorem dX2_readNumber_70 : decode cX2_readNumber 70 = .ok (.iload 5, 2) := by decide +kernel
theorem dX2_readNumber_72 : decode cX2_readNumber 72 = .ok (.bipush 10, 2) := by decide +kernel
theorem dX2_readNumber_74 : decode cX2_readNumber 74 = .ok (.imul, 1) := by decide +kernel
theorem dX2_readNumber_75 : decode cX2_readNumber 75 = .ok (.iload 6, 2) := by decide +kernel
theorem dX2_readNumber_77 : decode cX2_readNumber 77 = .ok (.iadd, 1) := by decide +kernel
theorem dX2_readNumber_78 : decode cX2_readNumber 78 = .ok (.istore 5, 2) := by decide +kernel
theorem dX2_readNumber_80 : decode cX2_readNumber 80 = .ok (.aload_n 0, 1) := by decide +kernel
theorem dX2_readNumber_81 : decode cX2_readNumber 81 = .ok (.dup, 1) := by decide +kernel
theorem dX2_readNumber_82 : decode cX2_readNumber 82 = .ok (.getfield 19, 3) := by decide +kernel
theorem dX2_readNumber_85 : decode cX2_readNumber 85 = .ok (.iconst 1, 1) := by decide +kernel
theorem dX2_readNumber_86 : decode cX2_readNumber 86 = .ok (.iadd, 1) := by decide +kernel
theorem dX2_readNumber_87 : decode cX2_readNumber 87 = .ok (.putfield 19, 3) := by decide +kernel
theorem dX2_readNumber_90 : decode cX2_readNumber 90 = .ok (.aload_n 1, 1) := by decide +kernel
theorem dX2_readNumber_91 : decode cX2_readNumber 91 = .ok (.iload_n 2, 1) := by decide +kernel
theorem dX2_readNumber_92 : decode cX2_readNumber 92 = .ok (.iload 5, 2) := by decide +kernel
theorem dX2_readNumber_94 : decode cX2_readNumber 94 = .ok (.iastore, 1) := by decide +kernel
theorem dX2_readNumber_95 : decode cX2_readNumber 95 = .ok (.iconst 1, 1) := by decide +kernel
theorem dX2_readNumber_96 : decode cX2_readNumber 96 = .ok (.ireturn, 1) := by decide +kernel
theorem dX2_signHere_0 : decode cX2_signHere 0 = .ok (.aload_n 0, 1) := by decide +kernel
theorem dX2_signHere_1 : decode cX2_signHere 1 = .ok (.getfield 19, 3) := by decide +kernel
theorem dX2_signHere_4 : decode cX2_signHere 4 = .ok (.ifCond .lt 35, 3) := by decide +kernel
theorem dX2_signHere_7 : decode cX2_signHere 7 = .ok (.aload_n 0, 1) := by decide +kernel
theorem dX2_signHere_8 : decode cX2_signHere 8 = .ok (.getfield 19, 3) := by decide +kernel
theorem dX2_signHere_11 : decode cX2_signHere 11 = .ok (.aload_n 0, 1) := by decide +kernel
theorem dX2_signHere_12 : decode cX2_signHere 12 = .ok (.getfield 15, 3) := by decide +kernel
theorem dX2_signHere_15 : decode cX2_signHere 15 = .ok (.if_icmp .ge 24, 3) := by decide +kernel
theorem dX2_signHere_18 : decode cX2_signHere 18 = .ok (.aload_n 0, 1) := by decide +kernel
theorem dX2_signHere_19 : decode cX2_signHere 19 = .ok (.getfield 19, 3) := by decide +kernel
theorem dX2_signHere_22 : decode cX2_signHere 22 = .ok (.bipush 60, 2) := by decide +kernel
theorem dX2_signHere_24 : decode cX2_signHere 24 = .ok (.if_icmp .ge 15, 3) := by decide +kernel
theorem dX2_signHere_27 : decode cX2_signHere 27 = .ok (.aload_n 0, 1) := by decide +kernel
theorem dX2_signHere_28 : decode cX2_signHere 28 = .ok (.getfield 9, 3) := by decide +kernel
theorem dX2_signHere_31 : decode cX2_signHere 31 = .ok (.aload_n 0, 1) := by decide +kernel
theorem dX2_signHere_32 : decode cX2_signHere 32 = .ok (.getfield 19, 3) := by decide +kernel
theorem dX2_signHere_35 : decode cX2_signHere 35 = .ok (.caload, 1) := by decide +kernel
theorem dX2_signHere_36 : decode cX2_signHere 36 = .ok (.goto 4, 3) := by decide +kernel
theorem dX2_signHere_39 : decode cX2_signHere 39 = .ok (.iconst (-1), 1) := by decide +kernel
theorem dX2_signHere_40 : decode cX2_signHere 40 = .ok (.ireturn, 1) := by decide +kernel
theorem dX2_digitHere_0 : decode cX2_digitHere 0 = .ok (.aload_n 0, 1) := by decide +kernel
theorem dX2_digitHere_1 : decode cX2_digitHere 1 = .ok (.invokevirtual 46, 3) := by decide +kernel
theorem dX2_digitHere_4 : decode cX2_digitHere 4 = .ok (.istore_n 1, 1) := by decide +kernel
theorem dX2_digitHere_5 : decode cX2_digitHere 5 = .ok (.iload_n 1, 1) := by decide +kernel
theorem dX2_digitHere_6 : decode cX2_digitHere 6 = .ok (.bipush 48, 2) := by decide +kernel
theorem dX2_digitHere_8 : decode cX2_digitHere 8 = .ok (.if_icmp .lt 16, 3) := by decide +kernel
theorem dX2_digitHere_11 : decode cX2_digitHere 11 = .ok (.iload_n 1, 1) := by decide +kernel
theorem dX2_digitHere_12 : decode cX2_digitHere 12 = .ok (.bipush 57, 2) := by decide +kernel
theorem dX2_digitHere_14 : decode cX2_digitHere 14 = .ok (.if_icmp .gt 10, 3) := by decide +kernel
theorem dX2_digitHere_17 : decode cX2_digitHere 17 = .ok (.iload_n 1, 1) := by decide +kernel
theorem dX2_digitHere_18 : decode cX2_digitHere 18 = .ok (.bipush 48, 2) := by decide +kernel
theorem dX2_digitHere_20 : decode cX2_digitHere 20 = .ok (.isub, 1) := by decide +kernel
theorem dX2_digitHere_21 : decode cX2_digitHere 21 = .ok (.goto 4, 3) := by decide +kernel
theorem dX2_digitHere_24 : decode cX2_digitHere 24 = .ok (.iconst (-1), 1) := by decide +kernel
theorem dX2_digitHere_25 : decode cX2_digitHere 25 = .ok (.ireturn, 1) := by decide +kernel
theorem dX3_init_0 : decode cX3_init 0 = .ok (.aload_n 0, 1) := by decide +kernel
theorem dX3_init_1 : decode cX3_init 1 = .ok (.invokespecial 3, 3) := by decide +kernel
theorem dX3_init_4 : decode cX3_init 4 = .ok (.aload_n 0, 1) := by decide +kernel
theorem dX3_init_5 : decode cX3_init 5 = .ok (.bipush 120, 2) := by decide +kernel
theorem dX3_init_7 : decode cX3_init 7 = .ok (.newarray .int, 2) := by decide +kernel
theorem dX3_init_9 : decode cX3_init 9 = .ok (.putfield 9, 3) := by decide +kernel
theorem dX3_init_12 : decode cX3_init 12 = .ok (.aload_n 0, 1) := by decide +kernel
theorem dX3_init_13 : decode cX3_init 13 = .ok (.bipush 120, 2) := by decide +kernel
theorem dX3_init_15 : decode cX3_init 15 = .ok (.newarray .int, 2) := by decide +kernel
theorem dX3_init_17 : decode cX3_init 17 = .ok (.putfield 15, 3) := by decide +kernel
theorem dX3_init_20 : decode cX3_init 20 = .ok (.return_, 1) := by decide +kernel
theorem dX3_fromRimDown_0 : decode cX3_fromRimDown 0 = .ok (.iload_n 2, 1) := by decide +kernel
theorem dX3_fromRimDown_1 : decode cX3_fromRimDown 1 = .ok (.iload_n 3, 1) := by decide +kernel
theorem dX3_fromRimDown_2 : decode cX3_fromRimDown 2 = .ok (.invokestatic 18, 3) := by decide +kernel
theorem dX3_fromRimDown_5 : decode cX3_fromRimDown 5 = .ok (.istore 4, 2) := by decide +kernel
theorem dX3_fromRimDown_7 : decode cX3_fromRimDown 7 = .ok (.iload 4, 2) := by decide +kernel
theorem dX3_fromRimDown_9 : decode cX3_fromRimDown 9 = .ok (.iconst (-1), 1) := by decide +kernel
theorem dX3_fromRimDown_10 : decode cX3_fromRimDown 10 = .ok (.if_icmp .ne 5, 3) := by decide +kernel
theorem dX3_fromRimDown_13 : decode cX3_fromRimDown 13 = .ok (.iconst (-1), 1) := by decide +kernel
theorem dX3_fromRimDown_14 : decode cX3_fromRimDown 14 = .ok (.ireturn, 1) := by decide +kernel
theorem dX3_fromRimDown_15 : decode cX3_fromRimDown 15 = .ok (.bipush 119, 2) := by decide +kernel
theorem dX3_fromRimDown_17 : decode cX3_fromRimDown 17 = .ok (.istore 5, 2) := by decide +kernel
theorem dX3_fromRimDown_19 : decode cX3_fromRimDown 19 = .ok (.iload 5, 2) := by decide +kernel
theorem dX3_fromRimDown_21 : decode cX3_fromRimDown 21 = .ok (.iload_n 3, 1) := by decide +kernel
theorem dX3_fromRimDown_22 : decode cX3_fromRimDown 22 = .ok (.bipush 6, 2) := by decide +kernel
theorem dX3_fromRimDown_24 : decode cX3_fromRimDown 24 = .ok (.imul, 1) := by decide +kernel
theorem dX3_fromRimDown_25 : decode cX3_fromRimDown 25 = .ok (.if_icmp .lt 46, 3) := by decide +kernel
theorem dX3_fromRimDown_28 : decode cX3_fromRimDown 28 = .ok (.iload 5, 2) := by decide +kernel
theorem dX3_fromRimDown_30 : decode cX3_fromRimDown 30 = .ok (.bipush 6, 2) := by decide +kernel
theorem dX3_fromRimDown_32 : decode cX3_fromRimDown 32 = .ok (.idiv, 1) := by decide +kernel
theorem dX3_fromRimDown_33 : decode cX3_fromRimDown 33 = .ok (.istore 6, 2) := by decide +kernel
theorem dX3_fromRimDown_35 : decode cX3_fromRimDown 35 = .ok (.aload_n 0, 1) := by decide +kernel
theorem dX3_fromRimDown_36 : decode cX3_fromRimDown 36 = .ok (.getfield 9, 3) := by decide +kernel
theorem dX3_fromRimDown_39 : decode cX3_fromRimDown 39 = .ok (.iload 5, 2) := by decide +kernel
theorem dX3_fromRimDown_41 : decode cX3_fromRimDown 41 = .ok (.iload 6, 2) := by decide +kernel
theorem dX3_fromRimDown_43 : decode cX3_fromRimDown 43 = .ok (.bipush 19, 2) := by decide +kernel
theorem dX3_fromRimDown_45 : decode cX3_fromRimDown 45 = .ok (.if_icmp .ne 7, 3) := by decide +kernel
theorem dX3_fromRimDown_48 : decode cX3_fromRimDown 48 = .ok (.iconst 0, 1) := by decide +kernel
theorem dX3_fromRimDown_49 : decode cX3_fromRimDown 49 = .ok (.goto 15, 3) := by decide +kernel
theorem dX3_fromRimDown_52 : decode cX3_fromRimDown 52 = .ok (.aload_n 0, 1) := by decide +kernel
theorem dX3_fromRimDown_53 : decode cX3_fromRimDown 53 = .ok (.aload_n 1, 1) := by decide +kernel
theorem dX3_fromRimDown_54 : decode cX3_fromRimDown 54 = .ok (.iload 5, 2) := by decide +kernel
theorem dX3_fromRimDown_56 : decode cX3_fromRimDown 56 = .ok (.bipush 6, 2) := by decide +kernel
theorem dX3_fromRimDown_58 : decode cX3_fromRimDown 58 = .ok (.irem, 1) := by decide +kernel
theorem dX3_fromRimDown_59 : decode cX3_fromRimDown 59 = .ok (.iload 6, 2) := by decide +kernel
theorem dX3_fromRimDown_61 : decode cX3_fromRimDown 61 = .ok (.invokevirtual 22, 3) := by decide +kernel
theorem dX3_fromRimDown_64 : decode cX3_fromRimDown 64 = .ok (.iastore, 1) := by decide +kernel
theorem dX3_fromRimDown_65 : decode cX3_fromRimDown 65 = .ok (.iinc 5 (-1), 3) := by decide +kernel
theorem dX3_fromRimDown_68 : decode cX3_fromRimDown 68 = .ok (.goto (-49), 3) := by decide +kernel
theorem dX3_fromRimDown_71 : decode cX3_fromRimDown 71 = .ok (.aload_n 0, 1) := by decide +kernel
theorem dX3_fromRimDown_72 : decode cX3_fromRimDown 72 = .ok (.getfield 9, 3) := by decide +kernel
theorem dX3_fromRimDown_75 : decode cX3_fromRimDown 75 = .ok (.iload 4, 2) := by decide +kernel
theorem dX3_fromRimDown_77 : decode cX3_fromRimDown 77 = .ok (.iaload, 1) := by decide +kernel
theorem dX3_fromRimDown_78 : decode cX3_fromRimDown 78 = .ok (.ireturn, 1) := by decide +kernel
theorem dX3_leastAbove_0 : decode cX3_leastAbove 0 = .ok (.ldc 26, 2) := by decide +kernel
theorem dX3_leastAbove_2 : decode cX3_leastAbove 2 = .ok (.istore 4, 2) := by decide +kernel
theorem dX3_leastAbove_4 : decode cX3_leastAbove 4 = .ok (.getstatic 27, 3) := by decide +kernel
theorem dX3_leastAbove_7 : decode cX3_leastAbove 7 = .ok (.astore 5, 2) := by decide +kernel
theorem dX3_leastAbove_9 : decode cX3_leastAbove 9 = .ok (.aload 5, 2) := by decide +kernel
theorem dX3_leastAbove_11 : decode cX3_leastAbove 11 = .ok (.arraylength, 1) := by decide +kernel
theorem dX3_leastAbove_12 : decode cX3_leastAbove 12 = .ok (.istore 6, 2) := by decide +kernel
theorem dX3_leastAbove_14 : decode cX3_leastAbove 14 = .ok (.iconst 0, 1) := by decide +kernel
theorem dX3_leastAbove_15 : decode cX3_leastAbove 15 = .ok (.istore 7, 2) := by decide +kernel
theorem dX3_leastAbove_17 : decode cX3_leastAbove 17 = .ok (.iload 7, 2) := by decide +kernel
theorem dX3_leastAbove_19 : decode cX3_leastAbove 19 = .ok (.iload 6, 2) := by decide +kernel
theorem dX3_leastAbove_21 : decode cX3_leastAbove 21 = .ok (.if_icmp .ge 55, 3) := by decide +kernel
theorem dX3_leastAbove_24 : decode cX3_leastAbove 24 = .ok (.aload 5, 2) := by decide +kernel
theorem dX3_leastAbove_26 : decode cX3_leastAbove 26 = .ok (.iload 7, 2) := by decide +kernel
theorem dX3_leastAbove_28 : decode cX3_leastAbove 28 = .ok (.iaload, 1) := by decide +kernel
theorem dX3_leastAbove_29 : decode cX3_leastAbove 29 = .ok (.istore 8, 2) := by decide +kernel
theorem dX3_leastAbove_31 : decode cX3_leastAbove 31 = .ok (.iload_n 2, 1) := by decide +kernel
theorem dX3_leastAbove_32 : decode cX3_leastAbove 32 = .ok (.iload 8, 2) := by decide +kernel
theorem dX3_leastAbove_34 : decode cX3_leastAbove 34 = .ok (.iadd, 1) := by decide +kernel
theorem dX3_leastAbove_35 : decode cX3_leastAbove 35 = .ok (.iload_n 3, 1) := by decide +kernel
theorem dX3_leastAbove_36 : decode cX3_leastAbove 36 = .ok (.iconst 1, 1) := by decide +kernel
theorem dX3_leastAbove_37 : decode cX3_leastAbove 37 = .ok (.iadd, 1) := by decide +kernel
theorem dX3_leastAbove_38 : decode cX3_leastAbove 38 = .ok (.invokestatic 18, 3) := by decide +kernel
theorem dX3_leastAbove_41 : decode cX3_leastAbove 41 = .ok (.istore 9, 2) := by decide +kernel
theorem dX3_leastAbove_43 : decode cX3_leastAbove 43 = .ok (.iload 9, 2) := by decide +kernel
theorem dX3_leastAbove_45 : decode cX3_leastAbove 45 = .ok (.iconst (-1), 1) := by decide +kernel
theorem dX3_leastAbove_46 : decode cX3_leastAbove 46 = .ok (.if_icmp .eq 24, 3) := by decide +kernel
theorem dX3_leastAbove_49 : decode cX3_leastAbove 49 = .ok (.iload 4, 2) := by decide +kernel
theorem dX3_leastAbove_51 : decode cX3_leastAbove 51 = .ok (.aload_n 1, 1) := by decide +kernel
theorem dX3_leastAbove_52 : decode cX3_leastAbove 52 = .ok (.iload 9, 2) := by decide +kernel
theorem dX3_leastAbove_54 : decode cX3_leastAbove 54 = .ok (.invokevirtual 30, 3) := by decide +kernel
theorem dX3_leastAbove_57 : decode cX3_leastAbove 57 = .ok (.aload_n 0, 1) := by decide +kernel
theorem dX3_leastAbove_58 : decode cX3_leastAbove 58 = .ok (.getfield 9, 3) := by decide +kernel
theorem dX3_leastAbove_61 : decode cX3_leastAbove 61 = .ok (.iload 9, 2) := by decide +kernel
theorem dX3_leastAbove_63 : decode cX3_leastAbove 63 = .ok (.iaload, 1) := by decide +kernel
theorem dX3_leastAbove_64 : decode cX3_leastAbove 64 = .ok (.iadd, 1) := by decide +kernel
theorem dX3_leastAbove_65 : decode cX3_leastAbove 65 = .ok (.invokestatic 36, 3) := by decide +kernel
theorem dX3_leastAbove_68 : decode cX3_leastAbove 68 = .ok (.istore 4, 2) := by decide +kernel
theorem dX3_leastAbove_70 : decode cX3_leastAbove 70 = .ok (.iinc 7 1, 3) := by decide +kernel
theorem dX3_leastAbove_73 : decode cX3_leastAbove 73 = .ok (.goto (-56), 3) := by decide +kernel
theorem dX3_leastAbove_76 : decode cX3_leastAbove 76 = .ok (.iload 4, 2) := by decide +kernel
theorem dX3_leastAbove_78 : decode cX3_leastAbove 78 = .ok (.ireturn, 1) := by decide +kernel
theorem dX3_leastSumFirst_0 : decode cX3_leastSumFirst 0 = .ok (.aload_n 0, 1) := by decide +kernel
theorem dX3_leastSumFirst_1 : decode cX3_leastSumFirst 1 = .ok (.getfield 9, 3) := by decide +kernel
theorem dX3_leastSumFirst_4 : decode cX3_leastSumFirst 4 = .ok (.ldc 26, 2) := by decide +kernel
theorem dX3_leastSumFirst_6 : decode cX3_leastSumFirst 6 = .ok (.invokestatic 41, 3) := by decide +kernel
theorem dX3_leastSumFirst_9 : decode cX3_leastSumFirst 9 = .ok (.aload_n 0, 1) := by decide +kernel
theorem dX3_leastSumFirst_10 : decode cX3_leastSumFirst 10 = .ok (.getfield 15, 3) := by decide +kernel
theorem dX3_leastSumFirst_13 : decode cX3_leastSumFirst 13 = .ok (.iconst 0, 1) := by decide +kernel
theorem dX3_leastSumFirst_14 : decode cX3_leastSumFirst 14 = .ok (.invokestatic 41, 3) := by decide +kernel
theorem dX3_leastSumFirst_17 : decode cX3_leastSumFirst 17 = .ok (.iload_n 2, 1) := by decide +kernel
theorem dX3_leastSumFirst_18 : decode cX3_leastSumFirst 18 = .ok (.iload_n 3, 1) := by decide +kernel
theorem dX3_leastSumFirst_19 : decode cX3_leastSumFirst 19 = .ok (.invokestatic 18, 3) := by decide +kernel
theorem dX3_leastSumFirst_22 : decode cX3_leastSumFirst 22 = .ok (.istore 4, 2) := by decide +kernel
theorem dX3_leastSumFirst_24 : decode cX3_leastSumFirst 24 = .ok (.iload 4, 2) := by decide +kernel
theorem dX3_leastSumFirst_26 : decode cX3_leastSumFirst 26 = .ok (.iconst (-1), 1) := by decide +kernel
theorem dX3_leastSumFirst_27 : decode cX3_leastSumFirst 27 = .ok (.if_icmp .ne 5, 3) := by decide +kernel
theorem dX3_leastSumFirst_30 : decode cX3_leastSumFirst 30 = .ok (.iconst (-1), 1) := by decide +kernel
theorem dX3_leastSumFirst_31 : decode cX3_leastSumFirst 31 = .ok (.ireturn, 1) := by decide +kernel
theorem dX3_leastSumFirst_32 : decode cX3_leastSumFirst 32 = .ok (.aload_n 0, 1) := by decide +kernel
theorem dX3_leastSumFirst_33 : decode cX3_leastSumFirst 33 = .ok (.getfield 9, 3) := by decide +kernel
theorem dX3_leastSumFirst_36 : decode cX3_leastSumFirst 36 = .ok (.iload 4, 2) := by decide +kernel
theorem dX3_leastSumFirst_38 : decode cX3_leastSumFirst 38 = .ok (.iconst 0, 1) := by decide +kernel
theorem dX3_leastSumFirst_39 : decode cX3_leastSumFirst 39 = .ok (.iastore, 1) := by decide +kernel
theorem dX3_leastSumFirst_40 : decode cX3_leastSumFirst 40 = .ok (.iconst 0, 1) := by decide +kernel
theorem dX3_leastSumFirst_41 : decode cX3_leastSumFirst 41 = .ok (.istore 5, 2) := by decide +kernel
theorem dX3_leastSumFirst_43 : decode cX3_leastSumFirst 43 = .ok (.iload 5, 2) := by decide +kernel
theorem dX3_leastSumFirst_45 : decode cX3_leastSumFirst 45 = .ok (.bipush 120, 2) := by decide +kernel
theorem dX3_leastSumFirst_47 : decode cX3_leastSumFirst 47 = .ok (.if_icmp .ge 65, 3) := by decide +kernel
theorem dX3_leastSumFirst_50 : decode cX3_leastSumFirst 50 = .ok (.aload_n 0, 1) := by decide +kernel
theorem dX3_leastSumFirst_51 : decode cX3_leastSumFirst 51 = .ok (.invokevirtual 47, 3) := by decide +kernel
theorem dX3_leastSumFirst_54 : decode cX3_leastSumFirst 54 = .ok (.istore 6, 2) := by decide +kernel
theorem dX3_leastSumFirst_56 : decode cX3_leastSumFirst 56 = .ok (.iload 6, 2) := by decide +kernel
theorem dX3_leastSumFirst_58 : decode cX3_leastSumFirst 58 = .ok (.iconst (-1), 1) := by decide +kernel
theorem dX3_leastSumFirst_59 : decode cX3_leastSumFirst 59 = .ok (.if_icmp .eq 13, 3) := by decide +kernel
theorem dX3_leastSumFirst_62 : decode cX3_leastSumFirst 62 = .ok (.iload 6, 2) := by decide +kernel
theorem dX3_leastSumFirst_64 : decode cX3_leastSumFirst 64 = .ok (.bipush 6, 2) := by decide +kernel
theorem dX3_leastSumFirst_66 : decode cX3_leastSumFirst 66 = .ok (.idiv, 1) := by decide +kernel
theorem dX3_leastSumFirst_67 : decode cX3_leastSumFirst 67 = .ok (.bipush 19, 2) := by decide +kernel
theorem dX3_leastSumFirst_69 : decode cX3_leastSumFirst 69 = .ok (.if_icmp .ne 22, 3) := by decide +kernel
theorem dX3_leastSumFirst_72 : decode cX3_leastSumFirst 72 = .ok (.iload 6, 2) := by decide +kernel
theorem dX3_leastSumFirst_74 : decode cX3_leastSumFirst 74 = .ok (.iconst (-1), 1) := by decide +kernel
theorem dX3_leastSumFirst_75 : decode cX3_leastSumFirst 75 = .ok (.if_icmp .ne 8, 3) := by decide +kernel
theorem dX3_leastSumFirst_78 : decode cX3_leastSumFirst 78 = .ok (.bipush (-5), 2) := by decide +kernel
theorem dX3_leastSumFirst_80 : decode cX3_leastSumFirst 80 = .ok (.goto 10, 3) := by decide +kernel
theorem dX3_leastSumFirst_83 : decode cX3_leastSumFirst 83 = .ok (.aload_n 0, 1) := by decide +kernel
theorem dX3_leastSumFirst_84 : decode cX3_leastSumFirst 84 = .ok (.getfield 9, 3) := by decide +kernel
theorem dX3_leastSumFirst_87 : decode cX3_leastSumFirst 87 = .ok (.iload 6, 2) := by decide +kernel
theorem dX3_leastSumFirst_89 : decode cX3_leastSumFirst 89 = .ok (.iaload, 1) := by decide +kernel
theorem dX3_leastSumFirst_90 : decode cX3_leastSumFirst 90 = .ok (.ireturn, 1) := by decide +kernel
theorem dX3_leastSumFirst_91 : decode cX3_leastSumFirst 91 = .ok (.aload_n 0, 1) := by decide +kernel
theorem dX3_leastSumFirst_92 : decode cX3_leastSumFirst 92 = .ok (.getfield 15, 3) := by decide +kernel
theorem dX3_leastSumFirst_95 : decode cX3_leastSumFirst 95 = .ok (.iload 6, 2) := by decide +kernel
theorem dX3_leastSumFirst_97 : decode cX3_leastSumFirst 97 = .ok (.iconst 1, 1) := by decide +kernel
theorem dX3_leastSumFirst_98 : decode cX3_leastSumFirst 98 = .ok (.iastore, 1) := by decide +kernel
theorem dX3_leastSumFirst_99 : decode cX3_leastSumFirst 99 = .ok (.aload_n 0, 1) := by decide +kernel
theorem dX3_leastSumFirst_100 : decode cX3_leastSumFirst 100 = .ok (.aload_n 1, 1) := by decide +kernel
theorem dX3_leastSumFirst_101 : decode cX3_leastSumFirst 101 = .ok (.iload 6, 2) := by decide +kernel
theorem dX3_leastSumFirst_103 : decode cX3_leastSumFirst 103 = .ok (.invokevirtual 51, 3) := by decide +kernel
theorem dX3_leastSumFirst_106 : decode cX3_leastSumFirst 106 = .ok (.iinc 5 1, 3) := by decide +kernel
theorem dX3_leastSumFirst_109 : decode cX3_leastSumFirst 109 = .ok (.goto (-66), 3) := by decide +kernel
theorem dX3_leastSumFirst_112 : decode cX3_leastSumFirst 112 = .ok (.bipush (-5), 2) := by decide +kernel
theorem dX3_leastSumFirst_114 : decode cX3_leastSumFirst 114 = .ok (.ireturn, 1) := by decide +kernel
theorem dX3_nearest_0 : decode cX3_nearest 0 = .ok (.iconst (-1), 1) := by decide +kernel
theorem dX3_nearest_1 : decode cX3_nearest 1 = .ok (.istore_n 1, 1) := by decide +kernel
theorem dX3_nearest_2 : decode cX3_nearest 2 = .ok (.ldc 26, 2) := by decide +kernel
theorem dX3_nearest_4 : decode cX3_nearest 4 = .ok (.istore_n 2, 1) := by decide +kernel
theorem dX3_nearest_5 : decode cX3_nearest 5 = .ok (.iconst 0, 1) := by decide +kernel
theorem dX3_nearest_6 : decode cX3_nearest 6 = .ok (.istore_n 3, 1) := by decide +kernel
theorem dX3_nearest_7 : decode cX3_nearest 7 = .ok (.iload_n 3, 1) := by decide +kernel
theorem dX3_nearest_8 : decode cX3_nearest 8 = .ok (.bipush 120, 2) := by decide +kernel
theorem dX3_nearest_10 : decode cX3_nearest 10 = .ok (.if_icmp .ge 37, 3) := by decide +kernel
theorem dX3_nearest_13 : decode cX3_nearest 13 = .ok (.aload_n 0, 1) := by decide +kernel
theorem dX3_nearest_14 : decode cX3_nearest 14 = .ok (.getfield 15, 3) := by decide +kernel
theorem dX3_nearest_17 : decode cX3_nearest 17 = .ok (.iload_n 3, 1) := by decide +kernel
theorem dX3_nearest_18 : decode cX3_nearest 18 = .ok (.iaload, 1) := by decide +kernel
theorem dX3_nearest_19 : decode cX3_nearest 19 = .ok (.ifCond .ne 22, 3) := by decide +kernel
theorem dX3_nearest_22 : decode cX3_nearest 22 = .ok (.aload_n 0, 1) := by decide +kernel
theorem dX3_nearest_23 : decode cX3_nearest 23 = .ok (.getfield 9, 3) := by decide +kernel
theorem dX3_nearest_26 : decode cX3_nearest 26 = .ok (.iload_n 3, 1) := by decide +kernel
theorem dX3_nearest_27 : decode cX3_nearest 27 = .ok (.iaload, 1) := by decide +kernel
theorem dX3_nearest_28 : decode cX3_nearest 28 = .ok (.iload_n 2, 1) := by decide +kernel
theorem dX3_nearest_29 : decode cX3_nearest 29 = .ok (.if_icmp .ge 12, 3) := by decide +kernel
theorem dX3_nearest_32 : decode cX3_nearest 32 = .ok (.iload_n 3, 1) := by decide +kernel
theorem dX3_nearest_33 : decode cX3_nearest 33 = .ok (.istore_n 1, 1) := by decide +kernel
theorem dX3_nearest_34 : decode cX3_nearest 34 = .ok (.aload_n 0, 1) := by decide +kernel
theorem dX3_nearest_35 : decode cX3_nearest 35 = .ok (.getfield 9, 3) := by decide +kernel
theorem dX3_nearest_38 : decode cX3_nearest 38 = .ok (.iload_n 3, 1) := by decide +kernel
theorem dX3_nearest_39 : decode cX3_nearest 39 = .ok (.iaload, 1) := by decide +kernel
theorem dX3_nearest_40 : decode cX3_nearest 40 = .ok (.istore_n 2, 1) := by decide +kernel
theorem dX3_nearest_41 : decode cX3_nearest 41 = .ok (.iinc 3 1, 3) := by decide +kernel
theorem dX3_nearest_44 : decode cX3_nearest 44 = .ok (.goto (-37), 3) := by decide +kernel
theorem dX3_nearest_47 : decode cX3_nearest 47 = .ok (.iload_n 1, 1) := by decide +kernel
theorem dX3_nearest_48 : decode cX3_nearest 48 = .ok (.ireturn, 1) := by decide +kernel
theorem dX3_reachAbove_0 : decode cX3_reachAbove 0 = .ok (.getstatic 27, 3) := by decide +kernel
theorem dX3_reachAbove_3 : decode cX3_reachAbove 3 = .ok (.astore_n 3, 1) := by decide +kernel
theorem dX3_reachAbove_4 : decode cX3_reachAbove 4 = .ok (.aload_n 3, 1) := by decide +kernel
theorem dX3_reachAbove_5 : decode cX3_reachAbove 5 = .ok (.arraylength, 1) := by decide +kernel
theorem dX3_reachAbove_6 : decode cX3_reachAbove 6 = .ok (.istore 4, 2) := by decide +kernel
theorem dX3_reachAbove_8 : decode cX3_reachAbove 8 = .ok (.iconst 0, 1) := by decide +kernel
theorem dX3_reachAbove_9 : decode cX3_reachAbove 9 = .ok (.istore 5, 2) := by decide +kernel
theorem dX3_reachAbove_11 : decode cX3_reachAbove 11 = .ok (.iload 5, 2) := by decide +kernel
theorem dX3_reachAbove_13 : decode cX3_reachAbove 13 = .ok (.iload 4, 2) := by decide +kernel
theorem dX3_reachAbove_15 : decode cX3_reachAbove 15 = .ok (.if_icmp .ge 69, 3) := by decide +kernel
theorem dX3_reachAbove_18 : decode cX3_reachAbove 18 = .ok (.aload_n 3, 1) := by decide +kernel
theorem dX3_reachAbove_19 : decode cX3_reachAbove 19 = .ok (.iload 5, 2) := by decide +kernel
theorem dX3_reachAbove_21 : decode cX3_reachAbove 21 = .ok (.iaload, 1) := by decide +kernel
theorem dX3_reachAbove_22 : decode cX3_reachAbove 22 = .ok (.istore 6, 2) := by decide +kernel
theorem dX3_reachAbove_24 : decode cX3_reachAbove 24 = .ok (.iload_n 2, 1) := by decide +kernel
theorem dX3_reachAbove_25 : decode cX3_reachAbove 25 = .ok (.bipush 6, 2) := by decide +kernel
theorem dX3_reachAbove_27 : decode cX3_reachAbove 27 = .ok (.irem, 1) := by decide +kernel
theorem dX3_reachAbove_28 : decode cX3_reachAbove 28 = .ok (.iload 6, 2) := by decide +kernel
theorem dX3_reachAbove_30 : decode cX3_reachAbove 30 = .ok (.iadd, 1) := by decide +kernel
theorem dX3_reachAbove_31 : decode cX3_reachAbove 31 = .ok (.iload_n 2, 1) := by decide +kernel
theorem dX3_reachAbove_32 : decode cX3_reachAbove 32 = .ok (.bipush 6, 2) := by decide +kernel
theorem dX3_reachAbove_34 : decode cX3_reachAbove 34 = .ok (.idiv, 1) := by decide +kernel
theorem dX3_reachAbove_35 : decode cX3_reachAbove 35 = .ok (.iconst 1, 1) := by decide +kernel
theorem dX3_reachAbove_36 : decode cX3_reachAbove 36 = .ok (.iadd, 1) := by decide +kernel
theorem dX3_reachAbove_37 : decode cX3_reachAbove 37 = .ok (.invokestatic 18, 3) := by decide +kernel
theorem dX3_reachAbove_40 : decode cX3_reachAbove 40 = .ok (.istore 7, 2) := by decide +kernel
theorem dX3_reachAbove_42 : decode cX3_reachAbove 42 = .ok (.iload 7, 2) := by decide +kernel
theorem dX3_reachAbove_44 : decode cX3_reachAbove 44 = .ok (.iconst (-1), 1) := by decide +kernel
theorem dX3_reachAbove_45 : decode cX3_reachAbove 45 = .ok (.if_icmp .eq 33, 3) := by decide +kernel
theorem dX3_reachAbove_48 : decode cX3_reachAbove 48 = .ok (.aload_n 0, 1) := by decide +kernel
theorem dX3_reachAbove_49 : decode cX3_reachAbove 49 = .ok (.getfield 9, 3) := by decide +kernel
theorem dX3_reachAbove_52 : decode cX3_reachAbove 52 = .ok (.iload 7, 2) := by decide +kernel
theorem dX3_reachAbove_54 : decode cX3_reachAbove 54 = .ok (.aload_n 0, 1) := by decide +kernel
theorem dX3_reachAbove_55 : decode cX3_reachAbove 55 = .ok (.getfield 9, 3) := by decide +kernel
theorem dX3_reachAbove_58 : decode cX3_reachAbove 58 = .ok (.iload 7, 2) := by decide +kernel
theorem dX3_reachAbove_60 : decode cX3_reachAbove 60 = .ok (.iaload, 1) := by decide +kernel
theorem dX3_reachAbove_61 : decode cX3_reachAbove 61 = .ok (.aload_n 0, 1) := by decide +kernel
theorem dX3_reachAbove_62 : decode cX3_reachAbove 62 = .ok (.getfield 9, 3) := by decide +kernel
theorem dX3_reachAbove_65 : decode cX3_reachAbove 65 = .ok (.iload_n 2, 1) := by decide +kernel
theorem dX3_reachAbove_66 : decode cX3_reachAbove 66 = .ok (.iaload, 1) := by decide +kernel
theorem dX3_reachAbove_67 : decode cX3_reachAbove 67 = .ok (.aload_n 1, 1) := by decide +kernel
theorem dX3_reachAbove_68 : decode cX3_reachAbove 68 = .ok (.iload 7, 2) := by decide +kernel
theorem dX3_reachAbove_70 : decode cX3_reachAbove 70 = .ok (.invokevirtual 30, 3) := by decide +kernel
theorem dX3_reachAbove_73 : decode cX3_reachAbove 73 = .ok (.iadd, 1) := by decide +kernel
theorem dX3_reachAbove_74 : decode cX3_reachAbove 74 = .ok (.invokestatic 36, 3) := by decide +kernel
theorem dX3_reachAbove_77 : decode cX3_reachAbove 77 = .ok (.iastore, 1) := by decide +kernel
theorem dX3_reachAbove_78 : decode cX3_reachAbove 78 = .ok (.iinc 5 1, 3) := by decide +kernel
theorem dX3_reachAbove_81 : decode cX3_reachAbove 81 = .ok (.goto (-70), 3) := by decide +kernel
theorem dX3_reachAbove_84 : decode cX3_reachAbove 84 = .ok (.return_, 1) := by decide +kernel
theorem dX4_init_0 : decode cX4_init 0 = .ok (.aload_n 0, 1) := by decide +kernel
theorem dX4_init_1 : decode cX4_init 1 = .ok (.invokespecial 3, 3) := by decide +kernel
theorem dX4_init_4 : decode cX4_init 4 = .ok (.aload_n 0, 1) := by decide +kernel
theorem dX4_init_5 : decode cX4_init 5 = .ok (.new 9, 3) := by decide +kernel
theorem dX4_init_8 : decode cX4_init 8 = .ok (.dup, 1) := by decide +kernel
theorem dX4_init_9 : decode cX4_init 9 = .ok (.invokespecial 11, 3) := by decide +kernel
theorem dX4_init_12 : decode cX4_init 12 = .ok (.putfield 12, 3) := by decide +kernel
theorem dX4_init_15 : decode cX4_init 15 = .ok (.aload_n 0, 1) := by decide +kernel
theorem dX4_init_16 : decode cX4_init 16 = .ok (.new 9, 3) := by decide +kernel
theorem dX4_init_19 : decode cX4_init 19 = .ok (.dup, 1) := by decide +kernel
theorem dX4_init_20 : decode cX4_init 20 = .ok (.invokespecial 11, 3) := by decide +kernel
theorem dX4_init_23 : decode cX4_init 23 = .ok (.putfield 16, 3) := by decide +kernel
theorem dX4_init_26 : decode cX4_init 26 = .ok (.aload_n 0, 1) := by decide +kernel
theorem dX4_init_27 : decode cX4_init 27 = .ok (.new 9, 3) := by decide +kernel
theorem dX4_init_30 : decode cX4_init 30 = .ok (.dup, 1) := by decide +kernel
theorem dX4_init_31 : decode cX4_init 31 = .ok (.invokespecial 11, 3) := by decide +kernel
theorem dX4_init_34 : decode cX4_init 34 = .ok (.putfield 19, 3) := by decide +kernel
theorem dX4_init_37 : decode cX4_init 37 = .ok (.aload_n 0, 1) := by decide +kernel
theorem dX4_init_38 : decode cX4_init 38 = .ok (.iconst 0, 1) := by decide +kernel
theorem dX4_init_39 : decode cX4_init 39 = .ok (.putfield 22, 3) := by decide +kernel
theorem dX4_init_42 : decode cX4_init 42 = .ok (.aload_n 0, 1) := by decide +kernel
theorem dX4_init_43 : decode cX4_init 43 = .ok (.new 26, 3) := by decide +kernel
theorem dX4_init_46 : decode cX4_init 46 = .ok (.dup, 1) := by decide +kernel
theorem dX4_init_47 : decode cX4_init 47 = .ok (.invokespecial 28, 3) := by decide +kernel
theorem dX4_init_50 : decode cX4_init 50 = .ok (.putfield 29, 3) := by decide +kernel
theorem dX4_init_53 : decode cX4_init 53 = .ok (.aload_n 0, 1) := by decide +kernel
theorem dX4_init_54 : decode cX4_init 54 = .ok (.new 33, 3) := by decide +kernel
theorem dX4_init_57 : decode cX4_init 57 = .ok (.dup, 1) := by decide +kernel
theorem dX4_init_58 : decode cX4_init 58 = .ok (.invokespecial 35, 3) := by decide +kernel
theorem dX4_init_61 : decode cX4_init 61 = .ok (.putfield 36, 3) := by decide +kernel
theorem dX4_init_64 : decode cX4_init 64 = .ok (.aload_n 0, 1) := by decide +kernel
theorem dX4_init_65 : decode cX4_init 65 = .ok (.new 40, 3) := by decide +kernel
theorem dX4_init_68 : decode cX4_init 68 = .ok (.dup, 1) := by decide +kernel
theorem dX4_init_69 : decode cX4_init 69 = .ok (.invokespecial 42, 3) := by decide +kernel
theorem dX4_init_72 : decode cX4_init 72 = .ok (.putfield 43, 3) := by decide +kernel
theorem dX4_init_75 : decode cX4_init 75 = .ok (.aload_n 0, 1) := by decide +kernel
theorem dX4_init_76 : decode cX4_init 76 = .ok (.bipush (-5), 2) := by decide +kernel
theorem dX4_init_78 : decode cX4_init 78 = .ok (.putfield 47, 3) := by decide +kernel
theorem dX4_init_81 : decode cX4_init 81 = .ok (.aload_n 0, 1) := by decide +kernel
theorem dX4_init_82 : decode cX4_init 82 = .ok (.bipush (-5), 2) := by decide +kernel
theorem dX4_init_84 : decode cX4_init 84 = .ok (.putfield 51, 3) := by decide +kernel
theorem dX4_init_87 : decode cX4_init 87 = .ok (.return_, 1) := by decide +kernel
theorem dX4_setSnail_0 : decode cX4_setSnail 0 = .ok (.aload_n 0, 1) := by decide +kernel
theorem dX4_setSnail_1 : decode cX4_setSnail 1 = .ok (.getfield 16, 3) := by decide +kernel
theorem dX4_setSnail_4 : decode cX4_setSnail 4 = .ok (.aload_n 0, 1) := by decide +kernel
theorem dX4_setSnail_5 : decode cX4_setSnail 5 = .ok (.getfield 12, 3) := by decide +kernel
theorem dX4_setSnail_8 : decode cX4_setSnail 8 = .ok (.invokevirtual 54, 3) := by decide +kernel
theorem dX4_setSnail_11 : decode cX4_setSnail 11 = .ok (.aload_n 0, 1) := by decide +kernel
theorem dX4_setSnail_12 : decode cX4_setSnail 12 = .ok (.aload_n 0, 1) := by decide +kernel
theorem dX4_setSnail_13 : decode cX4_setSnail 13 = .ok (.getfield 12, 3) := by decide +kernel
theorem dX4_setSnail_16 : decode cX4_setSnail 16 = .ok (.iload_n 1, 1) := by decide +kernel
theorem dX4_setSnail_17 : decode cX4_setSnail 17 = .ok (.iload_n 2, 1) := by decide +kernel
theorem dX4_setSnail_18 : decode cX4_setSnail 18 = .ok (.invokevirtual 58, 3) := by decide +kernel
theorem dX4_setSnail_21 : decode cX4_setSnail 21 = .ok (.invokevirtual 62, 3) := by decide +kernel
theorem dX4_setSnail_24 : decode cX4_setSnail 24 = .ok (.ireturn, 1) := by decide +kernel
theorem dX4_takeOff_0 : decode cX4_takeOff 0 = .ok (.aload_n 0, 1) := by decide +kernel
theorem dX4_takeOff_1 : decode cX4_takeOff 1 = .ok (.getfield 16, 3) := by decide +kernel
theorem dX4_takeOff_4 : decode cX4_takeOff 4 = .ok (.aload_n 0, 1) := by decide +kernel
theorem dX4_takeOff_5 : decode cX4_takeOff 5 = .ok (.getfield 12, 3) := by decide +kernel
theorem dX4_takeOff_8 : decode cX4_takeOff 8 = .ok (.invokevirtual 54, 3) := by decide +kernel
theorem dX4_takeOff_11 : decode cX4_takeOff 11 = .ok (.aload_n 0, 1) := by decide +kernel
theorem dX4_takeOff_12 : decode cX4_takeOff 12 = .ok (.aload_n 0, 1) := by decide +kernel
theorem dX4_takeOff_13 : decode cX4_takeOff 13 = .ok (.getfield 12, 3) := by decide +kernel
theorem dX4_takeOff_16 : decode cX4_takeOff 16 = .ok (.iload_n 1, 1) := by decide +kernel
theorem dX4_takeOff_17 : decode cX4_takeOff 17 = .ok (.invokevirtual 66, 3) := by decide +kernel
theorem dX4_takeOff_20 : decode cX4_takeOff 20 = .ok (.invokevirtual 62, 3) := by decide +kernel
theorem dX4_takeOff_23 : decode cX4_takeOff 23 = .ok (.ireturn, 1) := by decide +kernel
theorem dX4_setFrost_0 : decode cX4_setFrost 0 = .ok (.aload_n 0, 1) := by decide +kernel
theorem dX4_setFrost_1 : decode cX4_setFrost 1 = .ok (.getfield 16, 3) := by decide +kernel
theorem dX4_setFrost_4 : decode cX4_setFrost 4 = .ok (.aload_n 0, 1) := by decide +kernel
theorem dX4_setFrost_5 : decode cX4_setFrost 5 = .ok (.getfield 12, 3) := by decide +kernel
theorem dX4_setFrost_8 : decode cX4_setFrost 8 = .ok (.invokevirtual 54, 3) := by decide +kernel
theorem dX4_setFrost_11 : decode cX4_setFrost 11 = .ok (.aload_n 0, 1) := by decide +kernel
theorem dX4_setFrost_12 : decode cX4_setFrost 12 = .ok (.aload_n 0, 1) := by decide +kernel
theorem dX4_setFrost_13 : decode cX4_setFrost 13 = .ok (.getfield 12, 3) := by decide +kernel
theorem dX4_setFrost_16 : decode cX4_setFrost 16 = .ok (.iload_n 1, 1) := by decide +kernel
theorem dX4_setFrost_17 : decode cX4_setFrost 17 = .ok (.iload_n 2, 1) := by decide +kernel
theorem dX4_setFrost_18 : decode cX4_setFrost 18 = .ok (.iload_n 3, 1) := by decide +kernel
theorem dX4_setFrost_19 : decode cX4_setFrost 19 = .ok (.invokevirtual 69, 3) := by decide +kernel
theorem dX4_setFrost_22 : decode cX4_setFrost 22 = .ok (.invokevirtual 62, 3) := by decide +kernel
theorem dX4_setFrost_25 : decode cX4_setFrost 25 = .ok (.ireturn, 1) := by decide +kernel
theorem dX4_set_0 : decode cX4_set 0 = .ok (.aload_n 0, 1) := by decide +kernel
theorem dX4_set_1 : decode cX4_set 1 = .ok (.getfield 16, 3) := by decide +kernel
theorem dX4_set_4 : decode cX4_set 4 = .ok (.aload_n 0, 1) := by decide +kernel
theorem dX4_set_5 : decode cX4_set 5 = .ok (.getfield 12, 3) := by decide +kernel
theorem dX4_set_8 : decode cX4_set 8 = .ok (.invokevirtual 54, 3) := by decide +kernel
theorem dX4_set_11 : decode cX4_set 11 = .ok (.aload_n 0, 1) := by decide +kernel
theorem dX4_set_12 : decode cX4_set 12 = .ok (.aload_n 0, 1) := by decide +kernel
theorem dX4_set_13 : decode cX4_set 13 = .ok (.getfield 12, 3) := by decide +kernel
theorem dX4_set_16 : decode cX4_set 16 = .ok (.iload_n 1, 1) := by decide +kernel
theorem dX4_set_17 : decode cX4_set 17 = .ok (.iload_n 2, 1) := by decide +kernel
theorem dX4_set_18 : decode cX4_set 18 = .ok (.invokevirtual 73, 3) := by decide +kernel
theorem dX4_set_21 : decode cX4_set 21 = .ok (.invokevirtual 62, 3) := by decide +kernel
theorem dX4_set_24 : decode cX4_set 24 = .ok (.ireturn, 1) := by decide +kernel
theorem dX4_pass_0 : decode cX4_pass 0 = .ok (.aload_n 0, 1) := by decide +kernel
theorem dX4_pass_1 : decode cX4_pass 1 = .ok (.getfield 16, 3) := by decide +kernel
theorem dX4_pass_4 : decode cX4_pass 4 = .ok (.aload_n 0, 1) := by decide +kernel
theorem dX4_pass_5 : decode cX4_pass 5 = .ok (.getfield 12, 3) := by decide +kernel
theorem dX4_pass_8 : decode cX4_pass 8 = .ok (.invokevirtual 54, 3) := by decide +kernel
theorem dX4_pass_11 : decode cX4_pass 11 = .ok (.aload_n 0, 1) := by decide +kernel
theorem dX4_pass_12 : decode cX4_pass 12 = .ok (.aload_n 0, 1) := by decide +kernel
theorem dX4_pass_13 : decode cX4_pass 13 = .ok (.getfield 12, 3) := by decide +kernel
theorem dX4_pass_16 : decode cX4_pass 16 = .ok (.iload_n 1, 1) := by decide +kernel
theorem dX4_pass_17 : decode cX4_pass 17 = .ok (.invokevirtual 76, 3) := by decide +kernel
theorem dX4_pass_20 : decode cX4_pass 20 = .ok (.invokevirtual 62, 3) := by decide +kernel
theorem dX4_pass_23 : decode cX4_pass 23 = .ok (.ireturn, 1) := by decide +kernel
theorem dX4_recorded_0 : decode cX4_recorded 0 = .ok (.iload_n 1, 1) := by decide +kernel
theorem dX4_recorded_1 : decode cX4_recorded 1 = .ok (.ifCond .lt 14, 3) := by decide +kernel
theorem dX4_recorded_4 : decode cX4_recorded 4 = .ok (.aload_n 0, 1) := by decide +kernel
theorem dX4_recorded_5 : decode cX4_recorded 5 = .ok (.getfield 29, 3) := by decide +kernel
theorem dX4_recorded_8 : decode cX4_recorded 8 = .ok (.aload_n 0, 1) := by decide +kernel
theorem dX4_recorded_9 : decode cX4_recorded 9 = .ok (.getfield 16, 3) := by decide +kernel
theorem dX4_recorded_12 : decode cX4_recorded 12 = .ok (.invokevirtual 79, 3) := by decide +kernel
theorem dX4_recorded_15 : decode cX4_recorded 15 = .ok (.iload_n 1, 1) := by decide +kernel
theorem dX4_recorded_16 : decode cX4_recorded 16 = .ok (.ireturn, 1) := by decide +kernel
theorem dX4_type_0 : decode cX4_type 0 = .ok (.aload_n 0, 1) := by decide +kernel
theorem dX4_type_1 : decode cX4_type 1 = .ok (.getfield 36, 3) := by decide +kernel
theorem dX4_type_4 : decode cX4_type 4 = .ok (.iload_n 1, 1) := by decide +kernel
theorem dX4_type_5 : decode cX4_type 5 = .ok (.invokevirtual 82, 3) := by decide +kernel
theorem dX4_type_8 : decode cX4_type 8 = .ok (.ireturn, 1) := by decide +kernel
theorem dX4_clearText_0 : decode cX4_clearText 0 = .ok (.aload_n 0, 1) := by decide +kernel
theorem dX4_clearText_1 : decode cX4_clearText 1 = .ok (.getfield 36, 3) := by decide +kernel
theorem dX4_clearText_4 : decode cX4_clearText 4 = .ok (.invokevirtual 86, 3) := by decide +kernel
theorem dX4_clearText_7 : decode cX4_clearText 7 = .ok (.ireturn, 1) := by decide +kernel
theorem dX4_perform_0 : decode cX4_perform 0 = .ok (.aload_n 0, 1) := by decide +kernel
theorem dX4_perform_1 : decode cX4_perform 1 = .ok (.getfield 36, 3) := by decide +kernel
theorem dX4_perform_4 : decode cX4_perform 4 = .ok (.invokevirtual 90, 3) := by decide +kernel
theorem dX4_perform_7 : decode cX4_perform 7 = .ok (.istore_n 1, 1) := by decide +kernel
theorem dX4_perform_8 : decode cX4_perform 8 = .ok (.iload_n 1, 1) := by decide +kernel
theorem dX4_perform_9 : decode cX4_perform 9 = .ok (.iconst (-1), 1) := by decide +kernel
theorem dX4_perform_10 : decode cX4_perform 10 = .ok (.if_icmp .eq 8, 3) := by decide +kernel
theorem dX4_perform_13 : decode cX4_perform 13 = .ok (.bipush (-100), 2) := by decide +kernel
theorem dX4_perform_15 : decode cX4_perform 15 = .ok (.iload_n 1, 1) := by decide +kernel
theorem dX4_perform_16 : decode cX4_perform 16 = .ok (.isub, 1) := by decide +kernel
theorem dX4_perform_17 : decode cX4_perform 17 = .ok (.ireturn, 1) := by decide +kernel
theorem dX4_perform_18 : decode cX4_perform 18 = .ok (.aload_n 0, 1) := by decide +kernel
theorem dX4_perform_19 : decode cX4_perform 19 = .ok (.getfield 16, 3) := by decide +kernel
theorem dX4_perform_22 : decode cX4_perform 22 = .ok (.aload_n 0, 1) := by decide +kernel
theorem dX4_perform_23 : decode cX4_perform 23 = .ok (.getfield 12, 3) := by decide +kernel
theorem dX4_perform_26 : decode cX4_perform 26 = .ok (.invokevirtual 54, 3) := by decide +kernel
theorem dX4_perform_29 : decode cX4_perform 29 = .ok (.iconst 0, 1) := by decide +kernel
theorem dX4_perform_30 : decode cX4_perform 30 = .ok (.istore_n 2, 1) := by decide +kernel
theorem dX4_perform_31 : decode cX4_perform 31 = .ok (.iload_n 2, 1) := by decide +kernel
theorem dX4_perform_32 : decode cX4_perform 32 = .ok (.aload_n 0, 1) := by decide +kernel
theorem dX4_perform_33 : decode cX4_perform 33 = .ok (.getfield 36, 3) := by decide +kernel
theorem dX4_perform_36 : decode cX4_perform 36 = .ok (.getfield 93, 3) := by decide +kernel
theorem dX4_perform_39 : decode cX4_perform 39 = .ok (.if_icmp .ge 49, 3) := by decide +kernel
theorem dX4_perform_42 : decode cX4_perform 42 = .ok (.aload_n 0, 1) := by decide +kernel
theorem dX4_perform_43 : decode cX4_perform 43 = .ok (.iload_n 2, 1) := by decide +kernel
theorem dX4_perform_44 : decode cX4_perform 44 = .ok (.invokevirtual 96, 3) := by decide +kernel
theorem dX4_perform_47 : decode cX4_perform 47 = .ok (.istore_n 3, 1) := by decide +kernel
theorem dX4_perform_48 : decode cX4_perform 48 = .ok (.iload_n 3, 1) := by decide +kernel
theorem dX4_perform_49 : decode cX4_perform 49 = .ok (.ifCond .ge 33, 3) := by decide +kernel
theorem dX4_perform_52 : decode cX4_perform 52 = .ok (.iload_n 3, 1) := by decide +kernel
theorem dX4_perform_53 : decode cX4_perform 53 = .ok (.bipush (-5), 2) := by decide +kernel
theorem dX4_perform_55 : decode cX4_perform 55 = .ok (.if_icmp .eq 27, 3) := by decide +kernel
theorem dX4_perform_58 : decode cX4_perform 58 = .ok (.aload_n 0, 1) := by decide +kernel
theorem dX4_perform_59 : decode cX4_perform 59 = .ok (.iload_n 2, 1) := by decide +kernel
theorem dX4_perform_60 : decode cX4_perform 60 = .ok (.putfield 47, 3) := by decide +kernel
theorem dX4_perform_63 : decode cX4_perform 63 = .ok (.aload_n 0, 1) := by decide +kernel
theorem dX4_perform_64 : decode cX4_perform 64 = .ok (.iload_n 3, 1) := by decide +kernel
theorem dX4_perform_65 : decode cX4_perform 65 = .ok (.putfield 51, 3) := by decide +kernel
theorem dX4_perform_68 : decode cX4_perform 68 = .ok (.aload_n 0, 1) := by decide +kernel
theorem dX4_perform_69 : decode cX4_perform 69 = .ok (.getfield 12, 3) := by decide +kernel
theorem dX4_perform_72 : decode cX4_perform 72 = .ok (.aload_n 0, 1) := by decide +kernel
theorem dX4_perform_73 : decode cX4_perform 73 = .ok (.getfield 16, 3) := by decide +kernel
theorem dX4_perform_76 : decode cX4_perform 76 = .ok (.invokevirtual 54, 3) := by decide +kernel
theorem dX4_perform_79 : decode cX4_perform 79 = .ok (.bipush (-4), 2) := by decide +kernel
theorem dX4_perform_81 : decode cX4_perform 81 = .ok (.ireturn, 1) := by decide +kernel
theorem dX4_perform_82 : decode cX4_perform 82 = .ok (.iinc 2 1, 3) := by decide +kernel
theorem dX4_perform_85 : decode cX4_perform 85 = .ok (.goto (-54), 3) := by decide +kernel
theorem dX4_perform_88 : decode cX4_perform 88 = .ok (.aload_n 0, 1) := by decide +kernel
theorem dX4_perform_89 : decode cX4_perform 89 = .ok (.aload_n 0, 1) := by decide +kernel
theorem dX4_perform_90 : decode cX4_perform 90 = .ok (.getfield 36, 3) := by decide +kernel
theorem dX4_perform_93 : decode cX4_perform 93 = .ok (.getfield 93, 3) := by decide +kernel
theorem dX4_perform_96 : decode cX4_perform 96 = .ok (.invokevirtual 62, 3) := by decide +kernel
theorem dX4_perform_99 : decode cX4_perform 99 = .ok (.ireturn, 1) := by decide +kernel
theorem dX4_doThing_0 : decode cX4_doThing 0 = .ok (.iload_n 1, 1) := by decide +kernel
theorem dX4_doThing_1 : decode cX4_doThing 1 = .ok (.ifCond .lt 9, 3) := by decide +kernel
theorem dX4_doThing_4 : decode cX4_doThing 4 = .ok (.iload_n 1, 1) := by decide +kernel
theorem dX4_doThing_5 : decode cX4_doThing 5 = .ok (.bipush 21, 2) := by decide +kernel
theorem dX4_doThing_7 : decode cX4_doThing 7 = .ok (.if_icmp .lt 5, 3) := by decide +kernel
theorem dX4_doThing_10 : decode cX4_doThing 10 = .ok (.iconst (-1), 1) := by decide +kernel
theorem dX4_doThing_11 : decode cX4_doThing 11 = .ok (.ireturn, 1) := by decide +kernel
theorem dX4_doThing_12 : decode cX4_doThing 12 = .ok (.aload_n 0, 1) := by decide +kernel
theorem dX4_doThing_13 : decode cX4_doThing 13 = .ok (.getfield 36, 3) := by decide +kernel
theorem dX4_doThing_16 : decode cX4_doThing 16 = .ok (.getfield 99, 3) := by decide +kernel
theorem dX4_doThing_19 : decode cX4_doThing 19 = .ok (.iload_n 1, 1) := by decide +kernel
theorem dX4_doThing_20 : decode cX4_doThing 20 = .ok (.iaload, 1) := by decide +kernel
theorem dX4_doThing_21 : decode cX4_doThing 21 = .ok (.lookupswitch 88 #[(102, 53), (115, 27)], 27) := by decide +kernel
theorem dX4_doThing_48 : decode cX4_doThing 48 = .ok (.aload_n 0, 1) := by decide +kernel
theorem dX4_doThing_49 : decode cX4_doThing 49 = .ok (.getfield 12, 3) := by decide +kernel
theorem dX4_doThing_52 : decode cX4_doThing 52 = .ok (.aload_n 0, 1) := by decide +kernel
theorem dX4_doThing_53 : decode cX4_doThing 53 = .ok (.getfield 36, 3) := by decide +kernel
theorem dX4_doThing_56 : decode cX4_doThing 56 = .ok (.getfield 103, 3) := by decide +kernel
theorem dX4_doThing_59 : decode cX4_doThing 59 = .ok (.iload_n 1, 1) := by decide +kernel
theorem dX4_doThing_60 : decode cX4_doThing 60 = .ok (.iaload, 1) := by decide +kernel
theorem dX4_doThing_61 : decode cX4_doThing 61 = .ok (.aload_n 0, 1) := by decide +kernel
theorem dX4_doThing_62 : decode cX4_doThing 62 = .ok (.getfield 36, 3) := by decide +kernel
theorem dX4_doThing_65 : decode cX4_doThing 65 = .ok (.getfield 106, 3) := by decide +kernel
theorem dX4_doThing_68 : decode cX4_doThing 68 = .ok (.iload_n 1, 1) := by decide +kernel
theorem dX4_doThing_69 : decode cX4_doThing 69 = .ok (.iaload, 1) := by decide +kernel
theorem dX4_doThing_70 : decode cX4_doThing 70 = .ok (.invokevirtual 58, 3) := by decide +kernel
theorem dX4_doThing_73 : decode cX4_doThing 73 = .ok (.ireturn, 1) := by decide +kernel
theorem dX4_doThing_74 : decode cX4_doThing 74 = .ok (.aload_n 0, 1) := by decide +kernel
theorem dX4_doThing_75 : decode cX4_doThing 75 = .ok (.getfield 12, 3) := by decide +kernel
theorem dX4_doThing_78 : decode cX4_doThing 78 = .ok (.aload_n 0, 1) := by decide +kernel
theorem dX4_doThing_79 : decode cX4_doThing 79 = .ok (.getfield 36, 3) := by decide +kernel
theorem dX4_doThing_82 : decode cX4_doThing 82 = .ok (.getfield 103, 3) := by decide +kernel
theorem dX4_doThing_85 : decode cX4_doThing 85 = .ok (.iload_n 1, 1) := by decide +kernel
theorem dX4_doThing_86 : decode cX4_doThing 86 = .ok (.iaload, 1) := by decide +kernel
theorem dX4_doThing_87 : decode cX4_doThing 87 = .ok (.aload_n 0, 1) := by decide +kernel
theorem dX4_doThing_88 : decode cX4_doThing 88 = .ok (.getfield 36, 3) := by decide +kernel
theorem dX4_doThing_91 : decode cX4_doThing 91 = .ok (.getfield 109, 3) := by decide +kernel
theorem dX4_doThing_94 : decode cX4_doThing 94 = .ok (.iload_n 1, 1) := by decide +kernel
theorem dX4_doThing_95 : decode cX4_doThing 95 = .ok (.iaload, 1) := by decide +kernel
theorem dX4_doThing_96 : decode cX4_doThing 96 = .ok (.aload_n 0, 1) := by decide +kernel
theorem dX4_doThing_97 : decode cX4_doThing 97 = .ok (.getfield 36, 3) := by decide +kernel
theorem dX4_doThing_100 : decode cX4_doThing 100 = .ok (.getfield 106, 3) := by decide +kernel
theorem dX4_doThing_103 : decode cX4_doThing 103 = .ok (.iload_n 1, 1) := by decide +kernel
theorem dX4_doThing_104 : decode cX4_doThing 104 = .ok (.iaload, 1) := by decide +kernel
theorem dX4_doThing_105 : decode cX4_doThing 105 = .ok (.invokevirtual 69, 3) := by decide +kernel
theorem dX4_doThing_108 : decode cX4_doThing 108 = .ok (.ireturn, 1) := by decide +kernel
theorem dX4_doThing_109 : decode cX4_doThing 109 = .ok (.aload_n 0, 1) := by decide +kernel
theorem dX4_doThing_110 : decode cX4_doThing 110 = .ok (.getfield 12, 3) := by decide +kernel
theorem dX4_doThing_113 : decode cX4_doThing 113 = .ok (.aload_n 0, 1) := by decide +kernel
theorem dX4_doThing_114 : decode cX4_doThing 114 = .ok (.getfield 36, 3) := by decide +kernel
theorem dX4_doThing_117 : decode cX4_doThing 117 = .ok (.getfield 106, 3) := by decide +kernel
theorem dX4_doThing_120 : decode cX4_doThing 120 = .ok (.iload_n 1, 1) := by decide +kernel
theorem dX4_doThing_121 : decode cX4_doThing 121 = .ok (.iaload, 1) := by decide +kernel
theorem dX4_doThing_122 : decode cX4_doThing 122 = .ok (.invokevirtual 76, 3) := by decide +kernel
theorem dX4_doThing_125 : decode cX4_doThing 125 = .ok (.ireturn, 1) := by decide +kernel
theorem dX4_stopped_0 : decode cX4_stopped 0 = .ok (.iload_n 1, 1) := by decide +kernel
theorem dX4_stopped_1 : decode cX4_stopped 1 = .ok (.lookupswitch 37 #[(0, 27), (1, 32)], 27) := by decide +kernel
theorem dX4_stopped_28 : decode cX4_stopped 28 = .ok (.aload_n 0, 1) := by decide +kernel
theorem dX4_stopped_29 : decode cX4_stopped 29 = .ok (.getfield 47, 3) := by decide +kernel
theorem dX4_stopped_32 : decode cX4_stopped 32 = .ok (.ireturn, 1) := by decide +kernel
theorem dX4_stopped_33 : decode cX4_stopped 33 = .ok (.aload_n 0, 1) := by decide +kernel
theorem dX4_stopped_34 : decode cX4_stopped 34 = .ok (.getfield 51, 3) := by decide +kernel
theorem dX4_stopped_37 : decode cX4_stopped 37 = .ok (.ireturn, 1) := by decide +kernel
theorem dX4_stopped_38 : decode cX4_stopped 38 = .ok (.bipush (-2), 2) := by decide +kernel
theorem dX4_stopped_40 : decode cX4_stopped 40 = .ok (.ireturn, 1) := by decide +kernel
theorem dX4_undo_0 : decode cX4_undo 0 = .ok (.aload_n 0, 1) := by decide +kernel
theorem dX4_undo_1 : decode cX4_undo 1 = .ok (.getfield 29, 3) := by decide +kernel
theorem dX4_undo_4 : decode cX4_undo 4 = .ok (.aload_n 0, 1) := by decide +kernel
theorem dX4_undo_5 : decode cX4_undo 5 = .ok (.getfield 12, 3) := by decide +kernel
theorem dX4_undo_8 : decode cX4_undo 8 = .ok (.invokevirtual 112, 3) := by decide +kernel
theorem dX4_undo_11 : decode cX4_undo 11 = .ok (.ireturn, 1) := by decide +kernel
theorem dX4_keep_0 : decode cX4_keep 0 = .ok (.aload_n 0, 1) := by decide +kernel
theorem dX4_keep_1 : decode cX4_keep 1 = .ok (.getfield 19, 3) := by decide +kernel
theorem dX4_keep_4 : decode cX4_keep 4 = .ok (.aload_n 0, 1) := by decide +kernel
theorem dX4_keep_5 : decode cX4_keep 5 = .ok (.getfield 12, 3) := by decide +kernel
theorem dX4_keep_8 : decode cX4_keep 8 = .ok (.invokevirtual 54, 3) := by decide +kernel
theorem dX4_keep_11 : decode cX4_keep 11 = .ok (.aload_n 0, 1) := by decide +kernel
theorem dX4_keep_12 : decode cX4_keep 12 = .ok (.iconst 1, 1) := by decide +kernel
theorem dX4_keep_13 : decode cX4_keep 13 = .ok (.putfield 22, 3) := by decide +kernel
theorem dX4_keep_16 : decode cX4_keep 16 = .ok (.aload_n 0, 1) := by decide +kernel
theorem dX4_keep_17 : decode cX4_keep 17 = .ok (.getfield 12, 3) := by decide +kernel
theorem dX4_keep_20 : decode cX4_keep 20 = .ok (.getfield 116, 3) := by decide +kernel
theorem dX4_keep_23 : decode cX4_keep 23 = .ok (.ireturn, 1) := by decide +kernel
theorem dX4_restore_0 : decode cX4_restore 0 = .ok (.aload_n 0, 1) := by decide +kernel
theorem dX4_restore_1 : decode cX4_restore 1 = .ok (.getfield 22, 3) := by decide +kernel
theorem dX4_restore_4 : decode cX4_restore 4 = .ok (.ifCond .ne 6, 3) := by decide +kernel
theorem dX4_restore_7 : decode cX4_restore 7 = .ok (.bipush (-5), 2) := by decide +kernel
theorem dX4_restore_9 : decode cX4_restore 9 = .ok (.ireturn, 1) := by decide +kernel
theorem dX4_restore_10 : decode cX4_restore 10 = .ok (.aload_n 0, 1) := by decide +kernel
theorem dX4_restore_11 : decode cX4_restore 11 = .ok (.getfield 16, 3) := by decide +kernel
theorem dX4_restore_14 : decode cX4_restore 14 = .ok (.aload_n 0, 1) := by decide +kernel
theorem dX4_restore_15 : decode cX4_restore 15 = .ok (.getfield 12, 3) := by decide +kernel
theorem dX4_restore_18 : decode cX4_restore 18 = .ok (.invokevirtual 54, 3) := by decide +kernel
theorem dX4_restore_21 : decode cX4_restore 21 = .ok (.aload_n 0, 1) := by decide +kernel
theorem dX4_restore_22 : decode cX4_restore 22 = .ok (.getfield 12, 3) := by decide +kernel
theorem dX4_restore_25 : decode cX4_restore 25 = .ok (.aload_n 0, 1) := by decide +kernel
theorem dX4_restore_26 : decode cX4_restore 26 = .ok (.getfield 19, 3) := by decide +kernel
theorem dX4_restore_29 : decode cX4_restore 29 = .ok (.invokevirtual 54, 3) := by decide +kernel
theorem dX4_restore_32 : decode cX4_restore 32 = .ok (.aload_n 0, 1) := by decide +kernel
theorem dX4_restore_33 : decode cX4_restore 33 = .ok (.aload_n 0, 1) := by decide +kernel
theorem dX4_restore_34 : decode cX4_restore 34 = .ok (.getfield 12, 3) := by decide +kernel
theorem dX4_restore_37 : decode cX4_restore 37 = .ok (.getfield 116, 3) := by decide +kernel
theorem dX4_restore_40 : decode cX4_restore 40 = .ok (.invokevirtual 62, 3) := by decide +kernel
theorem dX4_restore_43 : decode cX4_restore 43 = .ok (.ireturn, 1) := by decide +kernel
theorem dX4_snail_0 : decode cX4_snail 0 = .ok (.aload_n 0, 1) := by decide +kernel
theorem dX4_snail_1 : decode cX4_snail 1 = .ok (.getfield 12, 3) := by decide +kernel
theorem dX4_snail_4 : decode cX4_snail 4 = .ok (.iload_n 1, 1) := by decide +kernel
theorem dX4_snail_5 : decode cX4_snail 5 = .ok (.iload_n 2, 1) := by decide +kernel
theorem dX4_snail_6 : decode cX4_snail 6 = .ok (.invokevirtual 119, 3) := by decide +kernel
theorem dX4_snail_9 : decode cX4_snail 9 = .ok (.ireturn, 1) := by decide +kernel
theorem dX4_cell_0 : decode cX4_cell 0 = .ok (.aload_n 0, 1) := by decide +kernel
theorem dX4_cell_1 : decode cX4_cell 1 = .ok (.getfield 12, 3) := by decide +kernel
theorem dX4_cell_4 : decode cX4_cell 4 = .ok (.iload_n 1, 1) := by decide +kernel
theorem dX4_cell_5 : decode cX4_cell 5 = .ok (.iload_n 2, 1) := by decide +kernel
theorem dX4_cell_6 : decode cX4_cell 6 = .ok (.iload_n 3, 1) := by decide +kernel
theorem dX4_cell_7 : decode cX4_cell 7 = .ok (.invokevirtual 122, 3) := by decide +kernel
theorem dX4_cell_10 : decode cX4_cell 10 = .ok (.ireturn, 1) := by decide +kernel
theorem dX4_cost_0 : decode cX4_cost 0 = .ok (.aload_n 0, 1) := by decide +kernel
theorem dX4_cost_1 : decode cX4_cost 1 = .ok (.getfield 12, 3) := by decide +kernel
theorem dX4_cost_4 : decode cX4_cost 4 = .ok (.iload_n 1, 1) := by decide +kernel
theorem dX4_cost_5 : decode cX4_cost 5 = .ok (.invokevirtual 125, 3) := by decide +kernel
theorem dX4_cost_8 : decode cX4_cost 8 = .ok (.ifCond .ne 5, 3) := by decide +kernel
theorem dX4_cost_11 : decode cX4_cost 11 = .ok (.iconst (-1), 1) := by decide +kernel
theorem dX4_cost_12 : decode cX4_cost 12 = .ok (.ireturn, 1) := by decide +kernel
theorem dX4_cost_13 : decode cX4_cost 13 = .ok (.iload_n 2, 1) := by decide +kernel
theorem dX4_cost_14 : decode cX4_cost 14 = .ok (.ifCond .lt 11, 3) := by decide +kernel
theorem dX4_cost_17 : decode cX4_cost 17 = .ok (.iload_n 2, 1) := by decide +kernel
theorem dX4_cost_18 : decode cX4_cost 18 = .ok (.getstatic 129, 3) := by decide +kernel
theorem dX4_cost_21 : decode cX4_cost 21 = .ok (.arraylength, 1) := by decide +kernel
theorem dX4_cost_22 : decode cX4_cost 22 = .ok (.if_icmp .lt 6, 3) := by decide +kernel
theorem dX4_cost_25 : decode cX4_cost 25 = .ok (.bipush (-2), 2) := by decide +kernel
theorem dX4_cost_27 : decode cX4_cost 27 = .ok (.ireturn, 1) := by decide +kernel
theorem dX4_cost_28 : decode cX4_cost 28 = .ok (.aload_n 0, 1) := by decide +kernel
theorem dX4_cost_29 : decode cX4_cost 29 = .ok (.getfield 12, 3) := by decide +kernel
theorem dX4_cost_32 : decode cX4_cost 32 = .ok (.iload_n 1, 1) := by decide +kernel
theorem dX4_cost_33 : decode cX4_cost 33 = .ok (.invokevirtual 132, 3) := by decide +kernel
theorem dX4_cost_36 : decode cX4_cost 36 = .ok (.ifCond .eq 15, 3) := by decide +kernel
theorem dX4_cost_39 : decode cX4_cost 39 = .ok (.aload_n 0, 1) := by decide +kernel
theorem dX4_cost_40 : decode cX4_cost 40 = .ok (.getfield 12, 3) := by decide +kernel
theorem dX4_cost_43 : decode cX4_cost 43 = .ok (.iload_n 1, 1) := by decide +kernel
theorem dX4_cost_44 : decode cX4_cost 44 = .ok (.iload_n 2, 1) := by decide +kernel
theorem dX4_cost_45 : decode cX4_cost 45 = .ok (.invokevirtual 135, 3) := by decide +kernel
theorem dX4_cost_48 : decode cX4_cost 48 = .ok (.goto 5, 3) := by decide +kernel
theorem dX4_cost_51 : decode cX4_cost 51 = .ok (.bipush (-4), 2) := by decide +kernel
theorem dX4_cost_53 : decode cX4_cost 53 = .ok (.ireturn, 1) := by decide +kernel
theorem dX4_does_0 : decode cX4_does 0 = .ok (.aload_n 0, 1) := by decide +kernel
theorem dX4_does_1 : decode cX4_does 1 = .ok (.getfield 12, 3) := by decide +kernel
theorem dX4_does_4 : decode cX4_does 4 = .ok (.iload_n 1, 1) := by decide +kernel
theorem dX4_does_5 : decode cX4_does 5 = .ok (.invokevirtual 125, 3) := by decide +kernel
theorem dX4_does_8 : decode cX4_does 8 = .ok (.ifCond .ne 5, 3) := by decide +kernel
theorem dX4_does_11 : decode cX4_does 11 = .ok (.iconst (-1), 1) := by decide +kernel
theorem dX4_does_12 : decode cX4_does 12 = .ok (.ireturn, 1) := by decide +kernel
theorem dX4_does_13 : decode cX4_does 13 = .ok (.aload_n 0, 1) := by decide +kernel
theorem dX4_does_14 : decode cX4_does 14 = .ok (.getfield 12, 3) := by decide +kernel
theorem dX4_does_17 : decode cX4_does 17 = .ok (.iload_n 1, 1) := by decide +kernel
theorem dX4_does_18 : decode cX4_does 18 = .ok (.invokevirtual 132, 3) := by decide +kernel
theorem dX4_does_21 : decode cX4_does 21 = .ok (.ifCond .eq 14, 3) := by decide +kernel
theorem dX4_does_24 : decode cX4_does 24 = .ok (.aload_n 0, 1) := by decide +kernel
theorem dX4_does_25 : decode cX4_does 25 = .ok (.getfield 12, 3) := by decide +kernel
theorem dX4_does_28 : decode cX4_does 28 = .ok (.iload_n 1, 1) := by decide +kernel
theorem dX4_does_29 : decode cX4_does 29 = .ok (.invokevirtual 138, 3) := by decide +kernel
theorem dX4_does_32 : decode cX4_does 32 = .ok (.goto 5, 3) := by decide +kernel
theorem dX4_does_35 : decode cX4_does 35 = .ok (.bipush (-4), 2) := by decide +kernel
theorem dX4_does_37 : decode cX4_does 37 = .ok (.ireturn, 1) := by decide +kernel
theorem dX4_reason_0 : decode cX4_reason 0 = .ok (.iload_n 2, 1) := by decide +kernel
theorem dX4_reason_1 : decode cX4_reason 1 = .ok (.iload_n 3, 1) := by decide +kernel
theorem dX4_reason_2 : decode cX4_reason 2 = .ok (.invokestatic 141, 3) := by decide +kernel
theorem dX4_reason_5 : decode cX4_reason 5 = .ok (.istore 4, 2) := by decide +kernel
theorem dX4_reason_7 : decode cX4_reason 7 = .ok (.aload_n 0, 1) := by decide +kernel
theorem dX4_reason_8 : decode cX4_reason 8 = .ok (.getfield 12, 3) := by decide +kernel
theorem dX4_reason_11 : decode cX4_reason 11 = .ok (.iload_n 1, 1) := by decide +kernel
theorem dX4_reason_12 : decode cX4_reason 12 = .ok (.invokevirtual 125, 3) := by decide +kernel
theorem dX4_reason_15 : decode cX4_reason 15 = .ok (.ifCond .eq 9, 3) := by decide +kernel
theorem dX4_reason_18 : decode cX4_reason 18 = .ok (.iload 4, 2) := by decide +kernel
theorem dX4_reason_20 : decode cX4_reason 20 = .ok (.iconst (-1), 1) := by decide +kernel
theorem dX4_reason_21 : decode cX4_reason 21 = .ok (.if_icmp .ne 5, 3) := by decide +kernel
theorem dX4_reason_24 : decode cX4_reason 24 = .ok (.iconst (-1), 1) := by decide +kernel
theorem dX4_reason_25 : decode cX4_reason 25 = .ok (.ireturn, 1) := by decide +kernel
theorem dX4_reason_26 : decode cX4_reason 26 = .ok (.aload_n 0, 1) := by decide +kernel
theorem dX4_reason_27 : decode cX4_reason 27 = .ok (.getfield 12, 3) := by decide +kernel
theorem dX4_reason_30 : decode cX4_reason 30 = .ok (.iload_n 1, 1) := by decide +kernel
theorem dX4_reason_31 : decode cX4_reason 31 = .ok (.iload 4, 2) := by decide +kernel
theorem dX4_reason_33 : decode cX4_reason 33 = .ok (.invokevirtual 144, 3) := by decide +kernel
theorem dX4_reason_36 : decode cX4_reason 36 = .ok (.ireturn, 1) := by decide +kernel
theorem dX4_endsIn_0 : decode cX4_endsIn 0 = .ok (.aload_n 0, 1) := by decide +kernel
theorem dX4_endsIn_1 : decode cX4_endsIn 1 = .ok (.getfield 12, 3) := by decide +kernel
theorem dX4_endsIn_4 : decode cX4_endsIn 4 = .ok (.iload_n 1, 1) := by decide +kernel
theorem dX4_endsIn_5 : decode cX4_endsIn 5 = .ok (.invokevirtual 125, 3) := by decide +kernel
theorem dX4_endsIn_8 : decode cX4_endsIn 8 = .ok (.ifCond .ne 5, 3) := by decide +kernel
theorem dX4_endsIn_11 : decode cX4_endsIn 11 = .ok (.iconst (-1), 1) := by decide +kernel
theorem dX4_endsIn_12 : decode cX4_endsIn 12 = .ok (.ireturn, 1) := by decide +kernel
theorem dX4_endsIn_13 : decode cX4_endsIn 13 = .ok (.aload_n 0, 1) := by decide +kernel
theorem dX4_endsIn_14 : decode cX4_endsIn 14 = .ok (.getfield 12, 3) := by decide +kernel
theorem dX4_endsIn_17 : decode cX4_endsIn 17 = .ok (.iload_n 1, 1) := by decide +kernel
theorem dX4_endsIn_18 : decode cX4_endsIn 18 = .ok (.invokevirtual 147, 3) := by decide +kernel
theorem dX4_endsIn_21 : decode cX4_endsIn 21 = .ok (.ifCond .eq 5, 3) := by decide +kernel
theorem dX4_endsIn_24 : decode cX4_endsIn 24 = .ok (.iconst 0, 1) := by decide +kernel
theorem dX4_endsIn_25 : decode cX4_endsIn 25 = .ok (.ireturn, 1) := by decide +kernel
theorem dX4_endsIn_26 : decode cX4_endsIn 26 = .ok (.aload_n 0, 1) := by decide +kernel
theorem dX4_endsIn_27 : decode cX4_endsIn 27 = .ok (.getfield 12, 3) := by decide +kernel
theorem dX4_endsIn_30 : decode cX4_endsIn 30 = .ok (.iload_n 1, 1) := by decide +kernel
theorem dX4_endsIn_31 : decode cX4_endsIn 31 = .ok (.invokevirtual 132, 3) := by decide +kernel
theorem dX4_endsIn_34 : decode cX4_endsIn 34 = .ok (.ifCond .ne 6, 3) := by decide +kernel
theorem dX4_endsIn_37 : decode cX4_endsIn 37 = .ok (.bipush (-4), 2) := by decide +kernel
theorem dX4_endsIn_39 : decode cX4_endsIn 39 = .ok (.ireturn, 1) := by decide +kernel
theorem dX4_endsIn_40 : decode cX4_endsIn 40 = .ok (.aload_n 0, 1) := by decide +kernel
theorem dX4_endsIn_41 : decode cX4_endsIn 41 = .ok (.getfield 16, 3) := by decide +kernel
theorem dX4_endsIn_44 : decode cX4_endsIn 44 = .ok (.aload_n 0, 1) := by decide +kernel
theorem dX4_endsIn_45 : decode cX4_endsIn 45 = .ok (.getfield 12, 3) := by decide +kernel
theorem dX4_endsIn_48 : decode cX4_endsIn 48 = .ok (.invokevirtual 54, 3) := by decide +kernel
theorem dX4_endsIn_51 : decode cX4_endsIn 51 = .ok (.aload_n 0, 1) := by decide +kernel
theorem dX4_endsIn_52 : decode cX4_endsIn 52 = .ok (.getfield 16, 3) := by decide +kernel
theorem dX4_endsIn_55 : decode cX4_endsIn 55 = .ok (.iload_n 1, 1) := by decide +kernel
theorem dX4_endsIn_56 : decode cX4_endsIn 56 = .ok (.sipush 300, 3) := by decide +kernel
theorem dX4_endsIn_59 : decode cX4_endsIn 59 = .ok (.invokevirtual 150, 3) := by decide +kernel
theorem dX4_endsIn_62 : decode cX4_endsIn 62 = .ok (.ireturn, 1) := by decide +kernel
theorem dX4_wayUp_0 : decode cX4_wayUp 0 = .ok (.iload_n 1, 1) := by decide +kernel
theorem dX4_wayUp_1 : decode cX4_wayUp 1 = .ok (.iload_n 2, 1) := by decide +kernel
theorem dX4_wayUp_2 : decode cX4_wayUp 2 = .ok (.invokestatic 141, 3) := by decide +kernel
theorem dX4_wayUp_5 : decode cX4_wayUp 5 = .ok (.iconst (-1), 1) := by decide +kernel
theorem dX4_wayUp_6 : decode cX4_wayUp 6 = .ok (.if_icmp .ne 5, 3) := by decide +kernel
theorem dX4_wayUp_9 : decode cX4_wayUp 9 = .ok (.iconst (-1), 1) := by decide +kernel
theorem dX4_wayUp_10 : decode cX4_wayUp 10 = .ok (.ireturn, 1) := by decide +kernel
theorem dX4_wayUp_11 : decode cX4_wayUp 11 = .ok (.iload_n 3, 1) := by decide +kernel
theorem dX4_wayUp_12 : decode cX4_wayUp 12 = .ok (.lookupswitch 56 #[(0, 28), (1, 42)], 28) := by decide +kernel
theorem dX4_wayUp_40 : decode cX4_wayUp 40 = .ok (.aload_n 0, 1) := by decide +kernel
theorem dX4_wayUp_41 : decode cX4_wayUp 41 = .ok (.getfield 43, 3) := by decide +kernel
theorem dX4_wayUp_44 : decode cX4_wayUp 44 = .ok (.aload_n 0, 1) := by decide +kernel
theorem dX4_wayUp_45 : decode cX4_wayUp 45 = .ok (.getfield 12, 3) := by decide +kernel
theorem dX4_wayUp_48 : decode cX4_wayUp 48 = .ok (.iload_n 1, 1) := by decide +kernel
theorem dX4_wayUp_49 : decode cX4_wayUp 49 = .ok (.iload_n 2, 1) := by decide +kernel
theorem dX4_wayUp_50 : decode cX4_wayUp 50 = .ok (.invokevirtual 153, 3) := by decide +kernel
theorem dX4_wayUp_53 : decode cX4_wayUp 53 = .ok (.ireturn, 1) := by decide +kernel
theorem dX4_wayUp_54 : decode cX4_wayUp 54 = .ok (.aload_n 0, 1) := by decide +kernel
theorem dX4_wayUp_55 : decode cX4_wayUp 55 = .ok (.getfield 43, 3) := by decide +kernel
theorem dX4_wayUp_58 : decode cX4_wayUp 58 = .ok (.aload_n 0, 1) := by decide +kernel
theorem dX4_wayUp_59 : decode cX4_wayUp 59 = .ok (.getfield 12, 3) := by decide +kernel
theorem dX4_wayUp_62 : decode cX4_wayUp 62 = .ok (.iload_n 1, 1) := by decide +kernel
theorem dX4_wayUp_63 : decode cX4_wayUp 63 = .ok (.iload_n 2, 1) := by decide +kernel
theorem dX4_wayUp_64 : decode cX4_wayUp 64 = .ok (.invokevirtual 157, 3) := by decide +kernel
theorem dX4_wayUp_67 : decode cX4_wayUp 67 = .ok (.ireturn, 1) := by decide +kernel
theorem dX4_wayUp_68 : decode cX4_wayUp 68 = .ok (.bipush (-2), 2) := by decide +kernel
theorem dX4_wayUp_70 : decode cX4_wayUp 70 = .ok (.ireturn, 1) := by decide +kernel
theorem dX4_leader_0 : decode cX4_leader 0 = .ok (.aload_n 0, 1) := by decide +kernel
theorem dX4_leader_1 : decode cX4_leader 1 = .ok (.getfield 12, 3) := by decide +kernel
theorem dX4_leader_4 : decode cX4_leader 4 = .ok (.invokevirtual 160, 3) := by decide +kernel
theorem dX4_leader_7 : decode cX4_leader 7 = .ok (.ireturn, 1) := by decide +kernel
theorem dX4_owes_0 : decode cX4_owes 0 = .ok (.aload_n 0, 1) := by decide +kernel
theorem dX4_owes_1 : decode cX4_owes 1 = .ok (.getfield 12, 3) := by decide +kernel
theorem dX4_owes_4 : decode cX4_owes 4 = .ok (.iload_n 1, 1) := by decide +kernel
theorem dX4_owes_5 : decode cX4_owes 5 = .ok (.iload_n 2, 1) := by decide +kernel
theorem dX4_owes_6 : decode cX4_owes 6 = .ok (.invokevirtual 163, 3) := by decide +kernel
theorem dX4_owes_9 : decode cX4_owes 9 = .ok (.ireturn, 1) := by decide +kernel
theorem dX4_bestLane_0 : decode cX4_bestLane 0 = .ok (.iload_n 1, 1) := by decide +kernel
theorem dX4_bestLane_1 : decode cX4_bestLane 1 = .ok (.ifCond .lt 18, 3) := by decide +kernel
theorem dX4_bestLane_4 : decode cX4_bestLane 4 = .ok (.iload_n 1, 1) := by decide +kernel
theorem dX4_bestLane_5 : decode cX4_bestLane 5 = .ok (.bipush 99, 2) := by decide +kernel
theorem dX4_bestLane_7 : decode cX4_bestLane 7 = .ok (.if_icmp .gt 12, 3) := by decide +kernel
theorem dX4_bestLane_10 : decode cX4_bestLane 10 = .ok (.iload_n 2, 1) := by decide +kernel
theorem dX4_bestLane_11 : decode cX4_bestLane 11 = .ok (.ifCond .lt 8, 3) := by decide +kernel
theorem dX4_bestLane_14 : decode cX4_bestLane 14 = .ok (.iload_n 2, 1) := by decide +kernel
theorem dX4_bestLane_15 : decode cX4_bestLane 15 = .ok (.iconst 1, 1) := by decide +kernel
theorem dX4_bestLane_16 : decode cX4_bestLane 16 = .ok (.if_icmp .le 6, 3) := by decide +kernel
theorem dX4_bestLane_19 : decode cX4_bestLane 19 = .ok (.bipush (-2), 2) := by decide +kernel
theorem dX4_bestLane_21 : decode cX4_bestLane 21 = .ok (.ireturn, 1) := by decide +kernel
theorem dX4_bestLane_22 : decode cX4_bestLane 22 = .ok (.bipush (-5), 2) := by decide +kernel
theorem dX4_bestLane_24 : decode cX4_bestLane 24 = .ok (.istore_n 3, 1) := by decide +kernel
theorem dX4_bestLane_25 : decode cX4_bestLane 25 = .ok (.sipush 301, 3) := by decide +kernel
theorem dX4_bestLane_28 : decode cX4_bestLane 28 = .ok (.istore 4, 2) := by decide +kernel
theorem dX4_bestLane_30 : decode cX4_bestLane 30 = .ok (.iconst 0, 1) := by decide +kernel
theorem dX4_bestLane_31 : decode cX4_bestLane 31 = .ok (.istore 5, 2) := by decide +kernel
theorem dX4_bestLane_33 : decode cX4_bestLane 33 = .ok (.iload 5, 2) := by decide +kernel
theorem dX4_bestLane_35 : decode cX4_bestLane 35 = .ok (.bipush 6, 2) := by decide +kernel
theorem dX4_bestLane_37 : decode cX4_bestLane 37 = .ok (.if_icmp .ge 36, 3) := by decide +kernel
theorem dX4_bestLane_40 : decode cX4_bestLane 40 = .ok (.aload_n 0, 1) := by decide +kernel
theorem dX4_bestLane_41 : decode cX4_bestLane 41 = .ok (.iload 5, 2) := by decide +kernel
theorem dX4_bestLane_43 : decode cX4_bestLane 43 = .ok (.iload_n 1, 1) := by decide +kernel
theorem dX4_bestLane_44 : decode cX4_bestLane 44 = .ok (.iload 4, 2) := by decide +kernel
theorem dX4_bestLane_46 : decode cX4_bestLane 46 = .ok (.iconst 1, 1) := by decide +kernel
theorem dX4_bestLane_47 : decode cX4_bestLane 47 = .ok (.isub, 1) := by decide +kernel
theorem dX4_bestLane_48 : decode cX4_bestLane 48 = .ok (.invokevirtual 166, 3) := by decide +kernel
theorem dX4_bestLane_51 : decode cX4_bestLane 51 = .ok (.istore 6, 2) := by decide +kernel
theorem dX4_bestLane_53 : decode cX4_bestLane 53 = .ok (.iload 6, 2) := by decide +kernel
theorem dX4_bestLane_55 : decode cX4_bestLane 55 = .ok (.bipush (-5), 2) := by decide +kernel
theorem dX4_bestLane_57 : decode cX4_bestLane 57 = .ok (.if_icmp .eq 10, 3) := by decide +kernel
theorem dX4_bestLane_60 : decode cX4_bestLane 60 = .ok (.iload 5, 2) := by decide +kernel
theorem dX4_bestLane_62 : decode cX4_bestLane 62 = .ok (.istore_n 3, 1) := by decide +kernel
theorem dX4_bestLane_63 : decode cX4_bestLane 63 = .ok (.iload 6, 2) := by decide +kernel
theorem dX4_bestLane_65 : decode cX4_bestLane 65 = .ok (.istore 4, 2) := by decide +kernel
theorem dX4_bestLane_67 : decode cX4_bestLane 67 = .ok (.iinc 5 1, 3) := by decide +kernel
theorem dX4_bestLane_70 : decode cX4_bestLane 70 = .ok (.goto (-37), 3) := by decide +kernel
theorem dX4_bestLane_73 : decode cX4_bestLane 73 = .ok (.iload_n 3, 1) := by decide +kernel
theorem dX4_bestLane_74 : decode cX4_bestLane 74 = .ok (.bipush (-5), 2) := by decide +kernel
theorem dX4_bestLane_76 : decode cX4_bestLane 76 = .ok (.if_icmp .eq 7, 3) := by decide +kernel
theorem dX4_bestLane_79 : decode cX4_bestLane 79 = .ok (.iload_n 2, 1) := by decide +kernel
theorem dX4_bestLane_80 : decode cX4_bestLane 80 = .ok (.ifCond .ne 7, 3) := by decide +kernel
theorem dX4_bestLane_83 : decode cX4_bestLane 83 = .ok (.iload_n 3, 1) := by decide +kernel
theorem dX4_bestLane_84 : decode cX4_bestLane 84 = .ok (.goto 5, 3) := by decide +kernel
theorem dX4_bestLane_87 : decode cX4_bestLane 87 = .ok (.iload 4, 2) := by decide +kernel
theorem dX4_bestLane_89 : decode cX4_bestLane 89 = .ok (.ireturn, 1) := by decide +kernel
theorem dX4_turnsFrom_0 : decode cX4_turnsFrom 0 = .ok (.aload_n 0, 1) := by decide +kernel
theorem dX4_turnsFrom_1 : decode cX4_turnsFrom 1 = .ok (.getfield 12, 3) := by decide +kernel
theorem dX4_turnsFrom_4 : decode cX4_turnsFrom 4 = .ok (.iload_n 1, 1) := by decide +kernel
theorem dX4_turnsFrom_5 : decode cX4_turnsFrom 5 = .ok (.iconst 0, 1) := by decide +kernel
theorem dX4_turnsFrom_6 : decode cX4_turnsFrom 6 = .ok (.invokevirtual 169, 3) := by decide +kernel
theorem dX4_turnsFrom_9 : decode cX4_turnsFrom 9 = .ok (.bipush (-5), 2) := by decide +kernel
theorem dX4_turnsFrom_11 : decode cX4_turnsFrom 11 = .ok (.if_icmp .eq 6, 3) := by decide +kernel
theorem dX4_turnsFrom_14 : decode cX4_turnsFrom 14 = .ok (.bipush (-5), 2) := by decide +kernel
theorem dX4_turnsFrom_16 : decode cX4_turnsFrom 16 = .ok (.ireturn, 1) := by decide +kernel
theorem dX4_turnsFrom_17 : decode cX4_turnsFrom 17 = .ok (.aload_n 0, 1) := by decide +kernel
theorem dX4_turnsFrom_18 : decode cX4_turnsFrom 18 = .ok (.getfield 16, 3) := by decide +kernel
theorem dX4_turnsFrom_21 : decode cX4_turnsFrom 21 = .ok (.aload_n 0, 1) := by decide +kernel
theorem dX4_turnsFrom_22 : decode cX4_turnsFrom 22 = .ok (.getfield 12, 3) := by decide +kernel
theorem dX4_turnsFrom_25 : decode cX4_turnsFrom 25 = .ok (.invokevirtual 54, 3) := by decide +kernel
theorem dX4_turnsFrom_28 : decode cX4_turnsFrom 28 = .ok (.aload_n 0, 1) := by decide +kernel
theorem dX4_turnsFrom_29 : decode cX4_turnsFrom 29 = .ok (.getfield 16, 3) := by decide +kernel
theorem dX4_turnsFrom_32 : decode cX4_turnsFrom 32 = .ok (.iload_n 1, 1) := by decide +kernel
theorem dX4_turnsFrom_33 : decode cX4_turnsFrom 33 = .ok (.iload_n 2, 1) := by decide +kernel
theorem dX4_turnsFrom_34 : decode cX4_turnsFrom 34 = .ok (.invokevirtual 172, 3) := by decide +kernel
theorem dX4_turnsFrom_37 : decode cX4_turnsFrom 37 = .ok (.istore 4, 2) := by decide +kernel
theorem dX4_turnsFrom_39 : decode cX4_turnsFrom 39 = .ok (.aload_n 0, 1) := by decide +kernel
theorem dX4_turnsFrom_40 : decode cX4_turnsFrom 40 = .ok (.getfield 16, 3) := by decide +kernel
theorem dX4_turnsFrom_43 : decode cX4_turnsFrom 43 = .ok (.iload 4, 2) := by decide +kernel
theorem dX4_turnsFrom_45 : decode cX4_turnsFrom 45 = .ok (.iload_n 3, 1) := by decide +kernel
theorem dX4_turnsFrom_46 : decode cX4_turnsFrom 46 = .ok (.invokevirtual 150, 3) := by decide +kernel
theorem dX4_turnsFrom_49 : decode cX4_turnsFrom 49 = .ok (.ireturn, 1) := by decide +kernel
theorem dX4_count_0 : decode cX4_count 0 = .ok (.iload_n 1, 1) := by decide +kernel
theorem dX4_count_1 : decode cX4_count 1 = .ok (.lookupswitch 43 #[(13, 27), (14, 35)], 27) := by decide +kernel
theorem dX4_count_28 : decode cX4_count 28 = .ok (.aload_n 0, 1) := by decide +kernel
theorem dX4_count_29 : decode cX4_count 29 = .ok (.getfield 29, 3) := by decide +kernel
theorem dX4_count_32 : decode cX4_count 32 = .ok (.getfield 175, 3) := by decide +kernel
theorem dX4_count_35 : decode cX4_count 35 = .ok (.ireturn, 1) := by decide +kernel
theorem dX4_count_36 : decode cX4_count 36 = .ok (.aload_n 0, 1) := by decide +kernel
theorem dX4_count_37 : decode cX4_count 37 = .ok (.getfield 36, 3) := by decide +kernel
theorem dX4_count_40 : decode cX4_count 40 = .ok (.getfield 178, 3) := by decide +kernel
theorem dX4_count_43 : decode cX4_count 43 = .ok (.ireturn, 1) := by decide +kernel
theorem dX4_count_44 : decode cX4_count 44 = .ok (.aload_n 0, 1) := by decide +kernel
theorem dX4_count_45 : decode cX4_count 45 = .ok (.getfield 12, 3) := by decide +kernel
theorem dX4_count_48 : decode cX4_count 48 = .ok (.iload_n 1, 1) := by decide +kernel
theorem dX4_count_49 : decode cX4_count 49 = .ok (.invokevirtual 181, 3) := by decide +kernel
theorem dX4_count_52 : decode cX4_count 52 = .ok (.ireturn, 1) := by decide +kernel
theorem dX4_cellAt_0 : decode cX4_cellAt 0 = .ok (.iload_n 0, 1) := by decide +kernel
theorem dX4_cellAt_1 : decode cX4_cellAt 1 = .ok (.ifCond .lt 19, 3) := by decide +kernel
theorem dX4_cellAt_4 : decode cX4_cellAt 4 = .ok (.iload_n 0, 1) := by decide +kernel
theorem dX4_cellAt_5 : decode cX4_cellAt 5 = .ok (.bipush 6, 2) := by decide +kernel
theorem dX4_cellAt_7 : decode cX4_cellAt 7 = .ok (.if_icmp .ge 13, 3) := by decide +kernel
theorem dX4_cellAt_10 : decode cX4_cellAt 10 = .ok (.iload_n 1, 1) := by decide +kernel
theorem dX4_cellAt_11 : decode cX4_cellAt 11 = .ok (.ifCond .lt 9, 3) := by decide +kernel
theorem dX4_cellAt_14 : decode cX4_cellAt 14 = .ok (.iload_n 1, 1) := by decide +kernel
theorem dX4_cellAt_15 : decode cX4_cellAt 15 = .ok (.bipush 20, 2) := by decide +kernel
theorem dX4_cellAt_17 : decode cX4_cellAt 17 = .ok (.if_icmp .lt 5, 3) := by decide +kernel
theorem dX4_cellAt_20 : decode cX4_cellAt 20 = .ok (.iconst (-1), 1) := by decide +kernel
theorem dX4_cellAt_21 : decode cX4_cellAt 21 = .ok (.ireturn, 1) := by decide +kernel
theorem dX4_cellAt_22 : decode cX4_cellAt 22 = .ok (.iload_n 1, 1) := by decide +kernel
theorem dX4_cellAt_23 : decode cX4_cellAt 23 = .ok (.bipush 6, 2) := by decide +kernel
theorem dX4_cellAt_25 : decode cX4_cellAt 25 = .ok (.imul, 1) := by decide +kernel
theorem dX4_cellAt_26 : decode cX4_cellAt 26 = .ok (.iload_n 0, 1) := by decide +kernel
theorem dX4_cellAt_27 : decode cX4_cellAt 27 = .ok (.iadd, 1) := by decide +kernel
theorem dX4_cellAt_28 : decode cX4_cellAt 28 = .ok (.ireturn, 1) := by decide +kernel
theorem dX4_sum_0 : decode cX4_sum 0 = .ok (.iconst 0, 1) := by decide +kernel
theorem dX4_sum_1 : decode cX4_sum 1 = .ok (.istore_n 1, 1) := by decide +kernel
theorem dX4_sum_2 : decode cX4_sum 2 = .ok (.aload_n 0, 1) := by decide +kernel
theorem dX4_sum_3 : decode cX4_sum 3 = .ok (.astore_n 2, 1) := by decide +kernel
theorem dX4_sum_4 : decode cX4_sum 4 = .ok (.aload_n 2, 1) := by decide +kernel
theorem dX4_sum_5 : decode cX4_sum 5 = .ok (.arraylength, 1) := by decide +kernel
theorem dX4_sum_6 : decode cX4_sum 6 = .ok (.istore_n 3, 1) := by decide +kernel
theorem dX4_sum_7 : decode cX4_sum 7 = .ok (.iconst 0, 1) := by decide +kernel
theorem dX4_sum_8 : decode cX4_sum 8 = .ok (.istore 4, 2) := by decide +kernel
theorem dX4_sum_10 : decode cX4_sum 10 = .ok (.iload 4, 2) := by decide +kernel
theorem dX4_sum_12 : decode cX4_sum 12 = .ok (.iload_n 3, 1) := by decide +kernel
theorem dX4_sum_13 : decode cX4_sum 13 = .ok (.if_icmp .ge 20, 3) := by decide +kernel
theorem dX4_sum_16 : decode cX4_sum 16 = .ok (.aload_n 2, 1) := by decide +kernel
theorem dX4_sum_17 : decode cX4_sum 17 = .ok (.iload 4, 2) := by decide +kernel
theorem dX4_sum_19 : decode cX4_sum 19 = .ok (.iaload, 1) := by decide +kernel
theorem dX4_sum_20 : decode cX4_sum 20 = .ok (.istore 5, 2) := by decide +kernel
theorem dX4_sum_22 : decode cX4_sum 22 = .ok (.iload_n 1, 1) := by decide +kernel
theorem dX4_sum_23 : decode cX4_sum 23 = .ok (.iload 5, 2) := by decide +kernel
theorem dX4_sum_25 : decode cX4_sum 25 = .ok (.iadd, 1) := by decide +kernel
theorem dX4_sum_26 : decode cX4_sum 26 = .ok (.istore_n 1, 1) := by decide +kernel
theorem dX4_sum_27 : decode cX4_sum 27 = .ok (.iinc 4 1, 3) := by decide +kernel
theorem dX4_sum_30 : decode cX4_sum 30 = .ok (.goto (-20), 3) := by decide +kernel
theorem dX4_sum_33 : decode cX4_sum 33 = .ok (.iload_n 1, 1) := by decide +kernel
theorem dX4_sum_34 : decode cX4_sum 34 = .ok (.ireturn, 1) := by decide +kernel
theorem dX4_copy_0 : decode cX4_copy 0 = .ok (.aload_n 0, 1) := by decide +kernel
theorem dX4_copy_1 : decode cX4_copy 1 = .ok (.iconst 0, 1) := by decide +kernel
theorem dX4_copy_2 : decode cX4_copy 2 = .ok (.aload_n 1, 1) := by decide +kernel
theorem dX4_copy_3 : decode cX4_copy 3 = .ok (.iconst 0, 1) := by decide +kernel
theorem dX4_copy_4 : decode cX4_copy 4 = .ok (.aload_n 0, 1) := by decide +kernel
theorem dX4_copy_5 : decode cX4_copy 5 = .ok (.arraylength, 1) := by decide +kernel
theorem dX4_copy_6 : decode cX4_copy 6 = .ok (.aload_n 1, 1) := by decide +kernel
theorem dX4_copy_7 : decode cX4_copy 7 = .ok (.arraylength, 1) := by decide +kernel
theorem dX4_copy_8 : decode cX4_copy 8 = .ok (.invokestatic 184, 3) := by decide +kernel
theorem dX4_copy_11 : decode cX4_copy 11 = .ok (.invokestatic 189, 3) := by decide +kernel
theorem dX4_copy_14 : decode cX4_copy 14 = .ok (.return_, 1) := by decide +kernel
