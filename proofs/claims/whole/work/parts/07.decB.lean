theorem dX5_init_0 : decode cX5_init 0 = .ok (.aload_n 0, 1) := by decide +kernel
theorem dX5_init_1 : decode cX5_init 1 = .ok (.invokespecial 1, 3) := by decide +kernel
theorem dX5_init_4 : decode cX5_init 4 = .ok (.aload_n 0, 1) := by decide +kernel
theorem dX5_init_5 : decode cX5_init 5 = .ok (.sipush 538, 3) := by decide +kernel
theorem dX5_init_8 : decode cX5_init 8 = .ok (.newarray .int, 2) := by decide +kernel
theorem dX5_init_10 : decode cX5_init 10 = .ok (.putfield 7, 3) := by decide +kernel
theorem dX5_init_13 : decode cX5_init 13 = .ok (.aload_n 0, 1) := by decide +kernel
theorem dX5_init_14 : decode cX5_init 14 = .ok (.sipush 538, 3) := by decide +kernel
theorem dX5_init_17 : decode cX5_init 17 = .ok (.newarray .int, 2) := by decide +kernel
theorem dX5_init_19 : decode cX5_init 19 = .ok (.putfield 13, 3) := by decide +kernel
theorem dX5_init_22 : decode cX5_init 22 = .ok (.aload_n 0, 1) := by decide +kernel
theorem dX5_init_23 : decode cX5_init 23 = .ok (.sipush 2152, 3) := by decide +kernel
theorem dX5_init_26 : decode cX5_init 26 = .ok (.newarray .int, 2) := by decide +kernel
theorem dX5_init_28 : decode cX5_init 28 = .ok (.putfield 16, 3) := by decide +kernel
theorem dX5_init_31 : decode cX5_init 31 = .ok (.aload_n 0, 1) := by decide +kernel
theorem dX5_init_32 : decode cX5_init 32 = .ok (.sipush 538, 3) := by decide +kernel
theorem dX5_init_35 : decode cX5_init 35 = .ok (.newarray .int, 2) := by decide +kernel
theorem dX5_init_37 : decode cX5_init 37 = .ok (.putfield 19, 3) := by decide +kernel
theorem dX5_init_40 : decode cX5_init 40 = .ok (.aload_n 0, 1) := by decide +kernel
theorem dX5_init_41 : decode cX5_init 41 = .ok (.bipush 60, 2) := by decide +kernel
theorem dX5_init_43 : decode cX5_init 43 = .ok (.newarray .char, 2) := by decide +kernel
theorem dX5_init_45 : decode cX5_init 45 = .ok (.putfield 22, 3) := by decide +kernel
theorem dX5_init_48 : decode cX5_init 48 = .ok (.aload_n 0, 1) := by decide +kernel
theorem dX5_init_49 : decode cX5_init 49 = .ok (.bipush 6, 2) := by decide +kernel
theorem dX5_init_51 : decode cX5_init 51 = .ok (.newarray .int, 2) := by decide +kernel
theorem dX5_init_53 : decode cX5_init 53 = .ok (.putfield 26, 3) := by decide +kernel
theorem dX5_init_56 : decode cX5_init 56 = .ok (.aload_n 0, 1) := by decide +kernel
theorem dX5_init_57 : decode cX5_init 57 = .ok (.bipush 6, 2) := by decide +kernel
theorem dX5_init_59 : decode cX5_init 59 = .ok (.newarray .int, 2) := by decide +kernel
theorem dX5_init_61 : decode cX5_init 61 = .ok (.putfield 29, 3) := by decide +kernel
theorem dX5_init_64 : decode cX5_init 64 = .ok (.iconst 0, 1) := by decide +kernel
theorem dX5_init_65 : decode cX5_init 65 = .ok (.istore_n 1, 1) := by decide +kernel
theorem dX5_init_66 : decode cX5_init 66 = .ok (.iload_n 1, 1) := by decide +kernel
theorem dX5_init_67 : decode cX5_init 67 = .ok (.bipush 120, 2) := by decide +kernel
theorem dX5_init_69 : decode cX5_init 69 = .ok (.if_icmp .ge 18, 3) := by decide +kernel
theorem dX5_init_72 : decode cX5_init 72 = .ok (.aload_n 0, 1) := by decide +kernel
theorem dX5_init_73 : decode cX5_init 73 = .ok (.getfield 7, 3) := by decide +kernel
theorem dX5_init_76 : decode cX5_init 76 = .ok (.iconst 0, 1) := by decide +kernel
theorem dX5_init_77 : decode cX5_init 77 = .ok (.iload_n 1, 1) := by decide +kernel
theorem dX5_init_78 : decode cX5_init 78 = .ok (.iadd, 1) := by decide +kernel
theorem dX5_init_79 : decode cX5_init 79 = .ok (.iconst 4, 1) := by decide +kernel
theorem dX5_init_80 : decode cX5_init 80 = .ok (.iastore, 1) := by decide +kernel
theorem dX5_init_81 : decode cX5_init 81 = .ok (.iinc 1 1, 3) := by decide +kernel
theorem dX5_init_84 : decode cX5_init 84 = .ok (.goto (-18), 3) := by decide +kernel
theorem dX5_init_87 : decode cX5_init 87 = .ok (.aload_n 0, 1) := by decide +kernel
theorem dX5_init_88 : decode cX5_init 88 = .ok (.getfield 7, 3) := by decide +kernel
theorem dX5_init_91 : decode cX5_init 91 = .ok (.sipush 531, 3) := by decide +kernel
theorem dX5_init_94 : decode cX5_init 94 = .ok (.bipush 6, 2) := by decide +kernel
theorem dX5_init_96 : decode cX5_init 96 = .ok (.iastore, 1) := by decide +kernel
theorem dX5_init_97 : decode cX5_init 97 = .ok (.aload_n 0, 1) := by decide +kernel
theorem dX5_init_98 : decode cX5_init 98 = .ok (.getfield 7, 3) := by decide +kernel
theorem dX5_init_101 : decode cX5_init 101 = .ok (.sipush 532, 3) := by decide +kernel
theorem dX5_init_104 : decode cX5_init 104 = .ok (.iconst 2, 1) := by decide +kernel
theorem dX5_init_105 : decode cX5_init 105 = .ok (.iastore, 1) := by decide +kernel
theorem dX5_init_106 : decode cX5_init 106 = .ok (.aload_n 0, 1) := by decide +kernel
theorem dX5_init_107 : decode cX5_init 107 = .ok (.getfield 7, 3) := by decide +kernel
theorem dX5_init_110 : decode cX5_init 110 = .ok (.sipush 533, 3) := by decide +kernel
theorem dX5_init_113 : decode cX5_init 113 = .ok (.iconst 5, 1) := by decide +kernel
theorem dX5_init_114 : decode cX5_init 114 = .ok (.iastore, 1) := by decide +kernel
theorem dX5_init_115 : decode cX5_init 115 = .ok (.aload_n 0, 1) := by decide +kernel
theorem dX5_init_116 : decode cX5_init 116 = .ok (.getfield 7, 3) := by decide +kernel
theorem dX5_init_119 : decode cX5_init 119 = .ok (.sipush 534, 3) := by decide +kernel
theorem dX5_init_122 : decode cX5_init 122 = .ok (.iconst 4, 1) := by decide +kernel
theorem dX5_init_123 : decode cX5_init 123 = .ok (.iastore, 1) := by decide +kernel
theorem dX5_init_124 : decode cX5_init 124 = .ok (.return_, 1) := by decide +kernel
theorem dX5_in_0 : decode cX5_in 0 = .ok (.iload_n 0, 1) := by decide +kernel
theorem dX5_in_1 : decode cX5_in 1 = .ok (.iload_n 1, 1) := by decide +kernel
theorem dX5_in_2 : decode cX5_in 2 = .ok (.if_icmp .lt 12, 3) := by decide +kernel
theorem dX5_in_5 : decode cX5_in 5 = .ok (.iload_n 0, 1) := by decide +kernel
theorem dX5_in_6 : decode cX5_in 6 = .ok (.iload_n 2, 1) := by decide +kernel
theorem dX5_in_7 : decode cX5_in 7 = .ok (.if_icmp .gt 7, 3) := by decide +kernel
theorem dX5_in_10 : decode cX5_in 10 = .ok (.iconst 1, 1) := by decide +kernel
theorem dX5_in_11 : decode cX5_in 11 = .ok (.goto 4, 3) := by decide +kernel
theorem dX5_in_14 : decode cX5_in 14 = .ok (.iconst 0, 1) := by decide +kernel
theorem dX5_in_15 : decode cX5_in 15 = .ok (.ireturn, 1) := by decide +kernel
theorem dX5_isLane_0 : decode cX5_isLane 0 = .ok (.iload_n 0, 1) := by decide +kernel
theorem dX5_isLane_1 : decode cX5_isLane 1 = .ok (.iconst 0, 1) := by decide +kernel
theorem dX5_isLane_2 : decode cX5_isLane 2 = .ok (.iconst 5, 1) := by decide +kernel
theorem dX5_isLane_3 : decode cX5_isLane 3 = .ok (.invokestatic 32, 3) := by decide +kernel
theorem dX5_isLane_6 : decode cX5_isLane 6 = .ok (.ireturn, 1) := by decide +kernel
theorem dX5_isCell_0 : decode cX5_isCell 0 = .ok (.iload_n 0, 1) := by decide +kernel
theorem dX5_isCell_1 : decode cX5_isCell 1 = .ok (.invokestatic 36, 3) := by decide +kernel
theorem dX5_isCell_4 : decode cX5_isCell 4 = .ok (.ifCond .eq 17, 3) := by decide +kernel
theorem dX5_isCell_7 : decode cX5_isCell 7 = .ok (.iload_n 1, 1) := by decide +kernel
theorem dX5_isCell_8 : decode cX5_isCell 8 = .ok (.iconst 0, 1) := by decide +kernel
theorem dX5_isCell_9 : decode cX5_isCell 9 = .ok (.bipush 19, 2) := by decide +kernel
theorem dX5_isCell_11 : decode cX5_isCell 11 = .ok (.invokestatic 32, 3) := by decide +kernel
theorem dX5_isCell_14 : decode cX5_isCell 14 = .ok (.ifCond .eq 7, 3) := by decide +kernel
theorem dX5_isCell_17 : decode cX5_isCell 17 = .ok (.iconst 1, 1) := by decide +kernel
theorem dX5_isCell_18 : decode cX5_isCell 18 = .ok (.goto 4, 3) := by decide +kernel
theorem dX5_isCell_21 : decode cX5_isCell 21 = .ok (.iconst 0, 1) := by decide +kernel
theorem dX5_isCell_22 : decode cX5_isCell 22 = .ok (.ireturn, 1) := by decide +kernel
theorem dX5_isSnail_0 : decode cX5_isSnail 0 = .ok (.iload_n 1, 1) := by decide +kernel
theorem dX5_isSnail_1 : decode cX5_isSnail 1 = .ok (.iconst 0, 1) := by decide +kernel
theorem dX5_isSnail_2 : decode cX5_isSnail 2 = .ok (.aload_n 0, 1) := by decide +kernel
theorem dX5_isSnail_3 : decode cX5_isSnail 3 = .ok (.getfield 7, 3) := by decide +kernel
theorem dX5_isSnail_6 : decode cX5_isSnail 6 = .ok (.sipush 535, 3) := by decide +kernel
theorem dX5_isSnail_9 : decode cX5_isSnail 9 = .ok (.iaload, 1) := by decide +kernel
theorem dX5_isSnail_10 : decode cX5_isSnail 10 = .ok (.iconst 1, 1) := by decide +kernel
theorem dX5_isSnail_11 : decode cX5_isSnail 11 = .ok (.isub, 1) := by decide +kernel
theorem dX5_isSnail_12 : decode cX5_isSnail 12 = .ok (.invokestatic 32, 3) := by decide +kernel
theorem dX5_isSnail_15 : decode cX5_isSnail 15 = .ok (.ireturn, 1) := by decide +kernel
theorem dX5_of_0 : decode cX5_of 0 = .ok (.sipush 360, 3) := by decide +kernel
theorem dX5_of_3 : decode cX5_of 3 = .ok (.bipush 10, 2) := by decide +kernel
theorem dX5_of_5 : decode cX5_of 5 = .ok (.iload_n 0, 1) := by decide +kernel
theorem dX5_of_6 : decode cX5_of 6 = .ok (.imul, 1) := by decide +kernel
theorem dX5_of_7 : decode cX5_of 7 = .ok (.iadd, 1) := by decide +kernel
theorem dX5_of_8 : decode cX5_of 8 = .ok (.iload_n 1, 1) := by decide +kernel
theorem dX5_of_9 : decode cX5_of 9 = .ok (.iadd, 1) := by decide +kernel
theorem dX5_of_10 : decode cX5_of 10 = .ok (.ireturn, 1) := by decide +kernel
theorem dX5_at_0 : decode cX5_at 0 = .ok (.bipush 6, 2) := by decide +kernel
theorem dX5_at_2 : decode cX5_at 2 = .ok (.iload_n 1, 1) := by decide +kernel
theorem dX5_at_3 : decode cX5_at 3 = .ok (.imul, 1) := by decide +kernel
theorem dX5_at_4 : decode cX5_at 4 = .ok (.iload_n 0, 1) := by decide +kernel
theorem dX5_at_5 : decode cX5_at 5 = .ok (.iadd, 1) := by decide +kernel
theorem dX5_at_6 : decode cX5_at 6 = .ok (.ireturn, 1) := by decide +kernel
theorem dX5_creeps_0 : decode cX5_creeps 0 = .ok (.aload_n 0, 1) := by decide +kernel
theorem dX5_creeps_1 : decode cX5_creeps 1 = .ok (.getfield 7, 3) := by decide +kernel
theorem dX5_creeps_4 : decode cX5_creeps 4 = .ok (.iload_n 1, 1) := by decide +kernel
theorem dX5_creeps_5 : decode cX5_creeps 5 = .ok (.iconst 3, 1) := by decide +kernel
theorem dX5_creeps_6 : decode cX5_creeps 6 = .ok (.invokestatic 40, 3) := by decide +kernel
theorem dX5_creeps_9 : decode cX5_creeps 9 = .ok (.iaload, 1) := by decide +kernel
theorem dX5_creeps_10 : decode cX5_creeps 10 = .ok (.ifCond .ne 7, 3) := by decide +kernel
theorem dX5_creeps_13 : decode cX5_creeps 13 = .ok (.iconst 1, 1) := by decide +kernel
theorem dX5_creeps_14 : decode cX5_creeps 14 = .ok (.goto 4, 3) := by decide +kernel
theorem dX5_creeps_17 : decode cX5_creeps 17 = .ok (.iconst 0, 1) := by decide +kernel
theorem dX5_creeps_18 : decode cX5_creeps 18 = .ok (.ireturn, 1) := by decide +kernel
theorem dX5_records_0 : decode cX5_records 0 = .ok (.aload_n 0, 1) := by decide +kernel
theorem dX5_records_1 : decode cX5_records 1 = .ok (.getfield 44, 3) := by decide +kernel
theorem dX5_records_4 : decode cX5_records 4 = .ok (.iconst 4, 1) := by decide +kernel
theorem dX5_records_5 : decode cX5_records 5 = .ok (.if_icmp .ne 44, 3) := by decide +kernel
theorem dX5_records_8 : decode cX5_records 8 = .ok (.iconst 0, 1) := by decide +kernel
theorem dX5_records_9 : decode cX5_records 9 = .ok (.istore_n 1, 1) := by decide +kernel
theorem dX5_records_10 : decode cX5_records 10 = .ok (.iload_n 1, 1) := by decide +kernel
theorem dX5_records_11 : decode cX5_records 11 = .ok (.sipush 1614, 3) := by decide +kernel
theorem dX5_records_14 : decode cX5_records 14 = .ok (.if_icmp .ge 25, 3) := by decide +kernel
theorem dX5_records_17 : decode cX5_records 17 = .ok (.aload_n 0, 1) := by decide +kernel
theorem dX5_records_18 : decode cX5_records 18 = .ok (.getfield 16, 3) := by decide +kernel
theorem dX5_records_21 : decode cX5_records 21 = .ok (.iload_n 1, 1) := by decide +kernel
theorem dX5_records_22 : decode cX5_records 22 = .ok (.aload_n 0, 1) := by decide +kernel
theorem dX5_records_23 : decode cX5_records 23 = .ok (.getfield 16, 3) := by decide +kernel
theorem dX5_records_26 : decode cX5_records 26 = .ok (.sipush 538, 3) := by decide +kernel
theorem dX5_records_29 : decode cX5_records 29 = .ok (.iload_n 1, 1) := by decide +kernel
theorem dX5_records_30 : decode cX5_records 30 = .ok (.iadd, 1) := by decide +kernel
theorem dX5_records_31 : decode cX5_records 31 = .ok (.iaload, 1) := by decide +kernel
theorem dX5_records_32 : decode cX5_records 32 = .ok (.iastore, 1) := by decide +kernel
theorem dX5_records_33 : decode cX5_records 33 = .ok (.iinc 1 1, 3) := by decide +kernel
theorem dX5_records_36 : decode cX5_records 36 = .ok (.goto (-26), 3) := by decide +kernel
theorem dX5_records_39 : decode cX5_records 39 = .ok (.aload_n 0, 1) := by decide +kernel
theorem dX5_records_40 : decode cX5_records 40 = .ok (.dup, 1) := by decide +kernel
theorem dX5_records_41 : decode cX5_records 41 = .ok (.getfield 44, 3) := by decide +kernel
theorem dX5_records_44 : decode cX5_records 44 = .ok (.iconst 1, 1) := by decide +kernel
theorem dX5_records_45 : decode cX5_records 45 = .ok (.isub, 1) := by decide +kernel
theorem dX5_records_46 : decode cX5_records 46 = .ok (.putfield 44, 3) := by decide +kernel
theorem dX5_records_49 : decode cX5_records 49 = .ok (.iconst 0, 1) := by decide +kernel
theorem dX5_records_50 : decode cX5_records 50 = .ok (.istore_n 1, 1) := by decide +kernel
theorem dX5_records_51 : decode cX5_records 51 = .ok (.iload_n 1, 1) := by decide +kernel
theorem dX5_records_52 : decode cX5_records 52 = .ok (.sipush 538, 3) := by decide +kernel
theorem dX5_records_55 : decode cX5_records 55 = .ok (.if_icmp .ge 30, 3) := by decide +kernel
theorem dX5_records_58 : decode cX5_records 58 = .ok (.aload_n 0, 1) := by decide +kernel
theorem dX5_records_59 : decode cX5_records 59 = .ok (.getfield 16, 3) := by decide +kernel
theorem dX5_records_62 : decode cX5_records 62 = .ok (.sipush 538, 3) := by decide +kernel
theorem dX5_records_65 : decode cX5_records 65 = .ok (.aload_n 0, 1) := by decide +kernel
theorem dX5_records_66 : decode cX5_records 66 = .ok (.getfield 44, 3) := by decide +kernel
theorem dX5_records_69 : decode cX5_records 69 = .ok (.imul, 1) := by decide +kernel
theorem dX5_records_70 : decode cX5_records 70 = .ok (.iload_n 1, 1) := by decide +kernel
theorem dX5_records_71 : decode cX5_records 71 = .ok (.iadd, 1) := by decide +kernel
theorem dX5_records_72 : decode cX5_records 72 = .ok (.aload_n 0, 1) := by decide +kernel
theorem dX5_records_73 : decode cX5_records 73 = .ok (.getfield 7, 3) := by decide +kernel
theorem dX5_records_76 : decode cX5_records 76 = .ok (.iload_n 1, 1) := by decide +kernel
theorem dX5_records_77 : decode cX5_records 77 = .ok (.iaload, 1) := by decide +kernel
theorem dX5_records_78 : decode cX5_records 78 = .ok (.iastore, 1) := by decide +kernel
theorem dX5_records_79 : decode cX5_records 79 = .ok (.iinc 1 1, 3) := by decide +kernel
theorem dX5_records_82 : decode cX5_records 82 = .ok (.goto (-31), 3) := by decide +kernel
theorem dX5_records_85 : decode cX5_records 85 = .ok (.aload_n 0, 1) := by decide +kernel
theorem dX5_records_86 : decode cX5_records 86 = .ok (.dup, 1) := by decide +kernel
theorem dX5_records_87 : decode cX5_records 87 = .ok (.getfield 44, 3) := by decide +kernel
theorem dX5_records_90 : decode cX5_records 90 = .ok (.iconst 1, 1) := by decide +kernel
theorem dX5_records_91 : decode cX5_records 91 = .ok (.iadd, 1) := by decide +kernel
theorem dX5_records_92 : decode cX5_records 92 = .ok (.putfield 44, 3) := by decide +kernel
theorem dX5_records_95 : decode cX5_records 95 = .ok (.return_, 1) := by decide +kernel
theorem dX5_putAside_0 : decode cX5_putAside 0 = .ok (.iconst 0, 1) := by decide +kernel
theorem dX5_putAside_1 : decode cX5_putAside 1 = .ok (.istore_n 1, 1) := by decide +kernel
theorem dX5_putAside_2 : decode cX5_putAside 2 = .ok (.iload_n 1, 1) := by decide +kernel
theorem dX5_putAside_3 : decode cX5_putAside 3 = .ok (.sipush 538, 3) := by decide +kernel
theorem dX5_putAside_6 : decode cX5_putAside 6 = .ok (.if_icmp .ge 21, 3) := by decide +kernel
theorem dX5_putAside_9 : decode cX5_putAside 9 = .ok (.aload_n 0, 1) := by decide +kernel
theorem dX5_putAside_10 : decode cX5_putAside 10 = .ok (.getfield 13, 3) := by decide +kernel
theorem dX5_putAside_13 : decode cX5_putAside 13 = .ok (.iload_n 1, 1) := by decide +kernel
theorem dX5_putAside_14 : decode cX5_putAside 14 = .ok (.aload_n 0, 1) := by decide +kernel
theorem dX5_putAside_15 : decode cX5_putAside 15 = .ok (.getfield 7, 3) := by decide +kernel
theorem dX5_putAside_18 : decode cX5_putAside 18 = .ok (.iload_n 1, 1) := by decide +kernel
theorem dX5_putAside_19 : decode cX5_putAside 19 = .ok (.iaload, 1) := by decide +kernel
theorem dX5_putAside_20 : decode cX5_putAside 20 = .ok (.iastore, 1) := by decide +kernel
theorem dX5_putAside_21 : decode cX5_putAside 21 = .ok (.iinc 1 1, 3) := by decide +kernel
theorem dX5_putAside_24 : decode cX5_putAside 24 = .ok (.goto (-22), 3) := by decide +kernel
theorem dX5_putAside_27 : decode cX5_putAside 27 = .ok (.return_, 1) := by decide +kernel
theorem dX5_putBack_0 : decode cX5_putBack 0 = .ok (.iconst 0, 1) := by decide +kernel
theorem dX5_putBack_1 : decode cX5_putBack 1 = .ok (.istore_n 1, 1) := by decide +kernel
theorem dX5_putBack_2 : decode cX5_putBack 2 = .ok (.iload_n 1, 1) := by decide +kernel
theorem dX5_putBack_3 : decode cX5_putBack 3 = .ok (.sipush 538, 3) := by decide +kernel
theorem dX5_putBack_6 : decode cX5_putBack 6 = .ok (.if_icmp .ge 21, 3) := by decide +kernel
theorem dX5_putBack_9 : decode cX5_putBack 9 = .ok (.aload_n 0, 1) := by decide +kernel
theorem dX5_putBack_10 : decode cX5_putBack 10 = .ok (.getfield 7, 3) := by decide +kernel
theorem dX5_putBack_13 : decode cX5_putBack 13 = .ok (.iload_n 1, 1) := by decide +kernel
theorem dX5_putBack_14 : decode cX5_putBack 14 = .ok (.aload_n 0, 1) := by decide +kernel
theorem dX5_putBack_15 : decode cX5_putBack 15 = .ok (.getfield 13, 3) := by decide +kernel
theorem dX5_putBack_18 : decode cX5_putBack 18 = .ok (.iload_n 1, 1) := by decide +kernel
theorem dX5_putBack_19 : decode cX5_putBack 19 = .ok (.iaload, 1) := by decide +kernel
theorem dX5_putBack_20 : decode cX5_putBack 20 = .ok (.iastore, 1) := by decide +kernel
theorem dX5_putBack_21 : decode cX5_putBack 21 = .ok (.iinc 1 1, 3) := by decide +kernel
theorem dX5_putBack_24 : decode cX5_putBack 24 = .ok (.goto (-22), 3) := by decide +kernel
theorem dX5_putBack_27 : decode cX5_putBack 27 = .ok (.return_, 1) := by decide +kernel
theorem dX5_snailOn_0 : decode cX5_snailOn 0 = .ok (.iconst 0, 1) := by decide +kernel
theorem dX5_snailOn_1 : decode cX5_snailOn 1 = .ok (.istore_n 3, 1) := by decide +kernel
theorem dX5_snailOn_2 : decode cX5_snailOn 2 = .ok (.iload_n 3, 1) := by decide +kernel
theorem dX5_snailOn_3 : decode cX5_snailOn 3 = .ok (.aload_n 0, 1) := by decide +kernel
theorem dX5_snailOn_4 : decode cX5_snailOn 4 = .ok (.getfield 7, 3) := by decide +kernel
theorem dX5_snailOn_7 : decode cX5_snailOn 7 = .ok (.sipush 535, 3) := by decide +kernel
theorem dX5_snailOn_10 : decode cX5_snailOn 10 = .ok (.iaload, 1) := by decide +kernel
theorem dX5_snailOn_11 : decode cX5_snailOn 11 = .ok (.if_icmp .ge 47, 3) := by decide +kernel
theorem dX5_snailOn_14 : decode cX5_snailOn 14 = .ok (.aload_n 0, 1) := by decide +kernel
theorem dX5_snailOn_15 : decode cX5_snailOn 15 = .ok (.iload_n 3, 1) := by decide +kernel
theorem dX5_snailOn_16 : decode cX5_snailOn 16 = .ok (.invokevirtual 48, 3) := by decide +kernel
theorem dX5_snailOn_19 : decode cX5_snailOn 19 = .ok (.ifCond .eq 33, 3) := by decide +kernel
theorem dX5_snailOn_22 : decode cX5_snailOn 22 = .ok (.aload_n 0, 1) := by decide +kernel
theorem dX5_snailOn_23 : decode cX5_snailOn 23 = .ok (.getfield 7, 3) := by decide +kernel
theorem dX5_snailOn_26 : decode cX5_snailOn 26 = .ok (.iload_n 3, 1) := by decide +kernel
theorem dX5_snailOn_27 : decode cX5_snailOn 27 = .ok (.iconst 0, 1) := by decide +kernel
theorem dX5_snailOn_28 : decode cX5_snailOn 28 = .ok (.invokestatic 40, 3) := by decide +kernel
theorem dX5_snailOn_31 : decode cX5_snailOn 31 = .ok (.iaload, 1) := by decide +kernel
theorem dX5_snailOn_32 : decode cX5_snailOn 32 = .ok (.iload_n 1, 1) := by decide +kernel
theorem dX5_snailOn_33 : decode cX5_snailOn 33 = .ok (.if_icmp .ne 19, 3) := by decide +kernel
theorem dX5_snailOn_36 : decode cX5_snailOn 36 = .ok (.aload_n 0, 1) := by decide +kernel
theorem dX5_snailOn_37 : decode cX5_snailOn 37 = .ok (.getfield 7, 3) := by decide +kernel
theorem dX5_snailOn_40 : decode cX5_snailOn 40 = .ok (.iload_n 3, 1) := by decide +kernel
theorem dX5_snailOn_41 : decode cX5_snailOn 41 = .ok (.iconst 1, 1) := by decide +kernel
theorem dX5_snailOn_42 : decode cX5_snailOn 42 = .ok (.invokestatic 40, 3) := by decide +kernel
theorem dX5_snailOn_45 : decode cX5_snailOn 45 = .ok (.iaload, 1) := by decide +kernel
theorem dX5_snailOn_46 : decode cX5_snailOn 46 = .ok (.iload_n 2, 1) := by decide +kernel
theorem dX5_snailOn_47 : decode cX5_snailOn 47 = .ok (.if_icmp .ne 5, 3) := by decide +kernel
theorem dX5_snailOn_50 : decode cX5_snailOn 50 = .ok (.iload_n 3, 1) := by decide +kernel
theorem dX5_snailOn_51 : decode cX5_snailOn 51 = .ok (.ireturn, 1) := by decide +kernel
theorem dX5_snailOn_52 : decode cX5_snailOn 52 = .ok (.iinc 3 1, 3) := by decide +kernel
theorem dX5_snailOn_55 : decode cX5_snailOn 55 = .ok (.goto (-53), 3) := by decide +kernel
theorem dX5_snailOn_58 : decode cX5_snailOn 58 = .ok (.bipush (-5), 2) := by decide +kernel
theorem dX5_snailOn_60 : decode cX5_snailOn 60 = .ok (.ireturn, 1) := by decide +kernel
theorem dX5_barSnail_0 : decode cX5_barSnail 0 = .ok (.iload_n 1, 1) := by decide +kernel
theorem dX5_barSnail_1 : decode cX5_barSnail 1 = .ok (.invokestatic 36, 3) := by decide +kernel
theorem dX5_barSnail_4 : decode cX5_barSnail 4 = .ok (.ifCond .ne 7, 3) := by decide +kernel
theorem dX5_barSnail_7 : decode cX5_barSnail 7 = .ok (.iconst (-1), 1) := by decide +kernel
theorem dX5_barSnail_8 : decode cX5_barSnail 8 = .ok (.goto 53, 3) := by decide +kernel
theorem dX5_barSnail_11 : decode cX5_barSnail 11 = .ok (.iload_n 2, 1) := by decide +kernel
theorem dX5_barSnail_12 : decode cX5_barSnail 12 = .ok (.iconst 0, 1) := by decide +kernel
theorem dX5_barSnail_13 : decode cX5_barSnail 13 = .ok (.bipush 99, 2) := by decide +kernel
theorem dX5_barSnail_15 : decode cX5_barSnail 15 = .ok (.invokestatic 32, 3) := by decide +kernel
theorem dX5_barSnail_18 : decode cX5_barSnail 18 = .ok (.ifCond .ne 8, 3) := by decide +kernel
theorem dX5_barSnail_21 : decode cX5_barSnail 21 = .ok (.bipush (-2), 2) := by decide +kernel
theorem dX5_barSnail_23 : decode cX5_barSnail 23 = .ok (.goto 38, 3) := by decide +kernel
theorem dX5_barSnail_26 : decode cX5_barSnail 26 = .ok (.aload_n 0, 1) := by decide +kernel
theorem dX5_barSnail_27 : decode cX5_barSnail 27 = .ok (.iload_n 1, 1) := by decide +kernel
theorem dX5_barSnail_28 : decode cX5_barSnail 28 = .ok (.iconst 0, 1) := by decide +kernel
theorem dX5_barSnail_29 : decode cX5_barSnail 29 = .ok (.invokevirtual 51, 3) := by decide +kernel
theorem dX5_barSnail_32 : decode cX5_barSnail 32 = .ok (.bipush (-5), 2) := by decide +kernel
theorem dX5_barSnail_34 : decode cX5_barSnail 34 = .ok (.if_icmp .eq 8, 3) := by decide +kernel
theorem dX5_barSnail_37 : decode cX5_barSnail 37 = .ok (.bipush (-4), 2) := by decide +kernel
theorem dX5_barSnail_39 : decode cX5_barSnail 39 = .ok (.goto 22, 3) := by decide +kernel
theorem dX5_barSnail_42 : decode cX5_barSnail 42 = .ok (.aload_n 0, 1) := by decide +kernel
theorem dX5_barSnail_43 : decode cX5_barSnail 43 = .ok (.getfield 7, 3) := by decide +kernel
theorem dX5_barSnail_46 : decode cX5_barSnail 46 = .ok (.sipush 535, 3) := by decide +kernel
theorem dX5_barSnail_49 : decode cX5_barSnail 49 = .ok (.iaload, 1) := by decide +kernel
theorem dX5_barSnail_50 : decode cX5_barSnail 50 = .ok (.bipush 8, 2) := by decide +kernel
theorem dX5_barSnail_52 : decode cX5_barSnail 52 = .ok (.if_icmp .ne 8, 3) := by decide +kernel
theorem dX5_barSnail_55 : decode cX5_barSnail 55 = .ok (.bipush (-3), 2) := by decide +kernel
theorem dX5_barSnail_57 : decode cX5_barSnail 57 = .ok (.goto 4, 3) := by decide +kernel
theorem dX5_barSnail_60 : decode cX5_barSnail 60 = .ok (.iconst 0, 1) := by decide +kernel
theorem dX5_barSnail_61 : decode cX5_barSnail 61 = .ok (.ireturn, 1) := by decide +kernel
theorem dX5_comes_0 : decode cX5_comes 0 = .ok (.aload_n 0, 1) := by decide +kernel
theorem dX5_comes_1 : decode cX5_comes 1 = .ok (.getfield 7, 3) := by decide +kernel
theorem dX5_comes_4 : decode cX5_comes 4 = .ok (.sipush 535, 3) := by decide +kernel
theorem dX5_comes_7 : decode cX5_comes 7 = .ok (.iaload, 1) := by decide +kernel
theorem dX5_comes_8 : decode cX5_comes 8 = .ok (.istore_n 3, 1) := by decide +kernel
theorem dX5_comes_9 : decode cX5_comes 9 = .ok (.iconst 0, 1) := by decide +kernel
theorem dX5_comes_10 : decode cX5_comes 10 = .ok (.istore 4, 2) := by decide +kernel
theorem dX5_comes_12 : decode cX5_comes 12 = .ok (.iload 4, 2) := by decide +kernel
theorem dX5_comes_14 : decode cX5_comes 14 = .ok (.bipush 10, 2) := by decide +kernel
theorem dX5_comes_16 : decode cX5_comes 16 = .ok (.if_icmp .ge 21, 3) := by decide +kernel
theorem dX5_comes_19 : decode cX5_comes 19 = .ok (.aload_n 0, 1) := by decide +kernel
theorem dX5_comes_20 : decode cX5_comes 20 = .ok (.getfield 7, 3) := by decide +kernel
theorem dX5_comes_23 : decode cX5_comes 23 = .ok (.iload_n 3, 1) := by decide +kernel
theorem dX5_comes_24 : decode cX5_comes 24 = .ok (.iload 4, 2) := by decide +kernel
theorem dX5_comes_26 : decode cX5_comes 26 = .ok (.invokestatic 40, 3) := by decide +kernel
theorem dX5_comes_29 : decode cX5_comes 29 = .ok (.iconst 0, 1) := by decide +kernel
theorem dX5_comes_30 : decode cX5_comes 30 = .ok (.iastore, 1) := by decide +kernel
theorem dX5_comes_31 : decode cX5_comes 31 = .ok (.iinc 4 1, 3) := by decide +kernel
theorem dX5_comes_34 : decode cX5_comes 34 = .ok (.goto (-22), 3) := by decide +kernel
theorem dX5_comes_37 : decode cX5_comes 37 = .ok (.iconst 0, 1) := by decide +kernel
theorem dX5_comes_38 : decode cX5_comes 38 = .ok (.istore 4, 2) := by decide +kernel
theorem dX5_comes_40 : decode cX5_comes 40 = .ok (.iload 4, 2) := by decide +kernel
theorem dX5_comes_42 : decode cX5_comes 42 = .ok (.bipush 8, 2) := by decide +kernel
theorem dX5_comes_44 : decode cX5_comes 44 = .ok (.if_icmp .gt 43, 3) := by decide +kernel
theorem dX5_comes_47 : decode cX5_comes 47 = .ok (.aload_n 0, 1) := by decide +kernel
theorem dX5_comes_48 : decode cX5_comes 48 = .ok (.getfield 7, 3) := by decide +kernel
theorem dX5_comes_51 : decode cX5_comes 51 = .ok (.sipush 450, 3) := by decide +kernel
theorem dX5_comes_54 : decode cX5_comes 54 = .ok (.bipush 9, 2) := by decide +kernel
theorem dX5_comes_56 : decode cX5_comes 56 = .ok (.iload_n 3, 1) := by decide +kernel
theorem dX5_comes_57 : decode cX5_comes 57 = .ok (.imul, 1) := by decide +kernel
theorem dX5_comes_58 : decode cX5_comes 58 = .ok (.iadd, 1) := by decide +kernel
theorem dX5_comes_59 : decode cX5_comes 59 = .ok (.iload 4, 2) := by decide +kernel
theorem dX5_comes_61 : decode cX5_comes 61 = .ok (.iadd, 1) := by decide +kernel
theorem dX5_comes_62 : decode cX5_comes 62 = .ok (.iconst 0, 1) := by decide +kernel
theorem dX5_comes_63 : decode cX5_comes 63 = .ok (.iastore, 1) := by decide +kernel
theorem dX5_comes_64 : decode cX5_comes 64 = .ok (.aload_n 0, 1) := by decide +kernel
theorem dX5_comes_65 : decode cX5_comes 65 = .ok (.getfield 7, 3) := by decide +kernel
theorem dX5_comes_68 : decode cX5_comes 68 = .ok (.sipush 450, 3) := by decide +kernel
theorem dX5_comes_71 : decode cX5_comes 71 = .ok (.bipush 9, 2) := by decide +kernel
theorem dX5_comes_73 : decode cX5_comes 73 = .ok (.iload 4, 2) := by decide +kernel
theorem dX5_comes_75 : decode cX5_comes 75 = .ok (.imul, 1) := by decide +kernel
theorem dX5_comes_76 : decode cX5_comes 76 = .ok (.iadd, 1) := by decide +kernel
theorem dX5_comes_77 : decode cX5_comes 77 = .ok (.iload_n 3, 1) := by decide +kernel
theorem dX5_comes_78 : decode cX5_comes 78 = .ok (.iadd, 1) := by decide +kernel
theorem dX5_comes_79 : decode cX5_comes 79 = .ok (.iconst 0, 1) := by decide +kernel
theorem dX5_comes_80 : decode cX5_comes 80 = .ok (.iastore, 1) := by decide +kernel
theorem dX5_comes_81 : decode cX5_comes 81 = .ok (.iinc 4 1, 3) := by decide +kernel
theorem dX5_comes_84 : decode cX5_comes 84 = .ok (.goto (-44), 3) := by decide +kernel
theorem dX5_comes_87 : decode cX5_comes 87 = .ok (.aload_n 0, 1) := by decide +kernel
theorem dX5_comes_88 : decode cX5_comes 88 = .ok (.getfield 7, 3) := by decide +kernel
theorem dX5_comes_91 : decode cX5_comes 91 = .ok (.iload_n 3, 1) := by decide +kernel
theorem dX5_comes_92 : decode cX5_comes 92 = .ok (.iconst 0, 1) := by decide +kernel
theorem dX5_comes_93 : decode cX5_comes 93 = .ok (.invokestatic 40, 3) := by decide +kernel
theorem dX5_comes_96 : decode cX5_comes 96 = .ok (.iload_n 1, 1) := by decide +kernel
theorem dX5_comes_97 : decode cX5_comes 97 = .ok (.iastore, 1) := by decide +kernel
theorem dX5_comes_98 : decode cX5_comes 98 = .ok (.aload_n 0, 1) := by decide +kernel
theorem dX5_comes_99 : decode cX5_comes 99 = .ok (.getfield 7, 3) := by decide +kernel
theorem dX5_comes_102 : decode cX5_comes 102 = .ok (.iload_n 3, 1) := by decide +kernel
theorem dX5_comes_103 : decode cX5_comes 103 = .ok (.iconst 2, 1) := by decide +kernel
theorem dX5_comes_104 : decode cX5_comes 104 = .ok (.invokestatic 40, 3) := by decide +kernel
theorem dX5_comes_107 : decode cX5_comes 107 = .ok (.iload_n 2, 1) := by decide +kernel
theorem dX5_comes_108 : decode cX5_comes 108 = .ok (.iastore, 1) := by decide +kernel
theorem dX5_comes_109 : decode cX5_comes 109 = .ok (.aload_n 0, 1) := by decide +kernel
theorem dX5_comes_110 : decode cX5_comes 110 = .ok (.getfield 7, 3) := by decide +kernel
theorem dX5_comes_113 : decode cX5_comes 113 = .ok (.sipush 535, 3) := by decide +kernel
theorem dX5_comes_116 : decode cX5_comes 116 = .ok (.dup2, 1) := by decide +kernel
theorem dX5_comes_117 : decode cX5_comes 117 = .ok (.iaload, 1) := by decide +kernel
theorem dX5_comes_118 : decode cX5_comes 118 = .ok (.iconst 1, 1) := by decide +kernel
theorem dX5_comes_119 : decode cX5_comes 119 = .ok (.iadd, 1) := by decide +kernel
theorem dX5_comes_120 : decode cX5_comes 120 = .ok (.iastore, 1) := by decide +kernel
theorem dX5_comes_121 : decode cX5_comes 121 = .ok (.iload_n 3, 1) := by decide +kernel
theorem dX5_comes_122 : decode cX5_comes 122 = .ok (.ireturn, 1) := by decide +kernel
theorem dX5_setSnail_0 : decode cX5_setSnail 0 = .ok (.aload_n 0, 1) := by decide +kernel
theorem dX5_setSnail_1 : decode cX5_setSnail 1 = .ok (.iload_n 1, 1) := by decide +kernel
theorem dX5_setSnail_2 : decode cX5_setSnail 2 = .ok (.iload_n 2, 1) := by decide +kernel
theorem dX5_setSnail_3 : decode cX5_setSnail 3 = .ok (.invokevirtual 54, 3) := by decide +kernel
theorem dX5_setSnail_6 : decode cX5_setSnail 6 = .ok (.istore_n 3, 1) := by decide +kernel
theorem dX5_setSnail_7 : decode cX5_setSnail 7 = .ok (.iload_n 3, 1) := by decide +kernel
theorem dX5_setSnail_8 : decode cX5_setSnail 8 = .ok (.ifCond .ge 5, 3) := by decide +kernel
theorem dX5_setSnail_11 : decode cX5_setSnail 11 = .ok (.iload_n 3, 1) := by decide +kernel
theorem dX5_setSnail_12 : decode cX5_setSnail 12 = .ok (.ireturn, 1) := by decide +kernel
theorem dX5_setSnail_13 : decode cX5_setSnail 13 = .ok (.aload_n 0, 1) := by decide +kernel
theorem dX5_setSnail_14 : decode cX5_setSnail 14 = .ok (.invokevirtual 57, 3) := by decide +kernel
theorem dX5_setSnail_17 : decode cX5_setSnail 17 = .ok (.aload_n 0, 1) := by decide +kernel
theorem dX5_setSnail_18 : decode cX5_setSnail 18 = .ok (.iload_n 1, 1) := by decide +kernel
theorem dX5_setSnail_19 : decode cX5_setSnail 19 = .ok (.iload_n 2, 1) := by decide +kernel
theorem dX5_setSnail_20 : decode cX5_setSnail 20 = .ok (.invokevirtual 60, 3) := by decide +kernel
theorem dX5_setSnail_23 : decode cX5_setSnail 23 = .ok (.ireturn, 1) := by decide +kernel
theorem dX5_takeOff_0 : decode cX5_takeOff 0 = .ok (.aload_n 0, 1) := by decide +kernel
theorem dX5_takeOff_1 : decode cX5_takeOff 1 = .ok (.iload_n 1, 1) := by decide +kernel
theorem dX5_takeOff_2 : decode cX5_takeOff 2 = .ok (.invokevirtual 63, 3) := by decide +kernel
theorem dX5_takeOff_5 : decode cX5_takeOff 5 = .ok (.ifCond .ne 5, 3) := by decide +kernel
theorem dX5_takeOff_8 : decode cX5_takeOff 8 = .ok (.iconst (-1), 1) := by decide +kernel
theorem dX5_takeOff_9 : decode cX5_takeOff 9 = .ok (.ireturn, 1) := by decide +kernel
theorem dX5_takeOff_10 : decode cX5_takeOff 10 = .ok (.aload_n 0, 1) := by decide +kernel
theorem dX5_takeOff_11 : decode cX5_takeOff 11 = .ok (.iload_n 1, 1) := by decide +kernel
theorem dX5_takeOff_12 : decode cX5_takeOff 12 = .ok (.invokevirtual 48, 3) := by decide +kernel
theorem dX5_takeOff_15 : decode cX5_takeOff 15 = .ok (.ifCond .ne 6, 3) := by decide +kernel
theorem dX5_takeOff_18 : decode cX5_takeOff 18 = .ok (.bipush (-4), 2) := by decide +kernel
theorem dX5_takeOff_20 : decode cX5_takeOff 20 = .ok (.ireturn, 1) := by decide +kernel
theorem dX5_takeOff_21 : decode cX5_takeOff 21 = .ok (.aload_n 0, 1) := by decide +kernel
theorem dX5_takeOff_22 : decode cX5_takeOff 22 = .ok (.invokevirtual 57, 3) := by decide +kernel
theorem dX5_takeOff_25 : decode cX5_takeOff 25 = .ok (.aload_n 0, 1) := by decide +kernel
theorem dX5_takeOff_26 : decode cX5_takeOff 26 = .ok (.getfield 7, 3) := by decide +kernel
theorem dX5_takeOff_29 : decode cX5_takeOff 29 = .ok (.iload_n 1, 1) := by decide +kernel
theorem dX5_takeOff_30 : decode cX5_takeOff 30 = .ok (.iconst 3, 1) := by decide +kernel
theorem dX5_takeOff_31 : decode cX5_takeOff 31 = .ok (.invokestatic 40, 3) := by decide +kernel
theorem dX5_takeOff_34 : decode cX5_takeOff 34 = .ok (.iconst 2, 1) := by decide +kernel
theorem dX5_takeOff_35 : decode cX5_takeOff 35 = .ok (.iastore, 1) := by decide +kernel
theorem dX5_takeOff_36 : decode cX5_takeOff 36 = .ok (.aload_n 0, 1) := by decide +kernel
theorem dX5_takeOff_37 : decode cX5_takeOff 37 = .ok (.getfield 7, 3) := by decide +kernel
theorem dX5_takeOff_40 : decode cX5_takeOff 40 = .ok (.iload_n 1, 1) := by decide +kernel
theorem dX5_takeOff_41 : decode cX5_takeOff 41 = .ok (.iconst 1, 1) := by decide +kernel
theorem dX5_takeOff_42 : decode cX5_takeOff 42 = .ok (.invokestatic 40, 3) := by decide +kernel
theorem dX5_takeOff_45 : decode cX5_takeOff 45 = .ok (.iaload, 1) := by decide +kernel
theorem dX5_takeOff_46 : decode cX5_takeOff 46 = .ok (.ireturn, 1) := by decide +kernel
theorem dX5_barFrost_0 : decode cX5_barFrost 0 = .ok (.iload_n 1, 1) := by decide +kernel
theorem dX5_barFrost_1 : decode cX5_barFrost 1 = .ok (.iload_n 2, 1) := by decide +kernel
theorem dX5_barFrost_2 : decode cX5_barFrost 2 = .ok (.invokestatic 66, 3) := by decide +kernel
theorem dX5_barFrost_5 : decode cX5_barFrost 5 = .ok (.ifCond .ne 7, 3) := by decide +kernel
theorem dX5_barFrost_8 : decode cX5_barFrost 8 = .ok (.iconst (-1), 1) := by decide +kernel
theorem dX5_barFrost_9 : decode cX5_barFrost 9 = .ok (.goto 56, 3) := by decide +kernel
theorem dX5_barFrost_12 : decode cX5_barFrost 12 = .ok (.iload_n 3, 1) := by decide +kernel
theorem dX5_barFrost_13 : decode cX5_barFrost 13 = .ok (.iconst 0, 1) := by decide +kernel
theorem dX5_barFrost_14 : decode cX5_barFrost 14 = .ok (.bipush 9, 2) := by decide +kernel
theorem dX5_barFrost_16 : decode cX5_barFrost 16 = .ok (.invokestatic 32, 3) := by decide +kernel
theorem dX5_barFrost_19 : decode cX5_barFrost 19 = .ok (.ifCond .ne 8, 3) := by decide +kernel
theorem dX5_barFrost_22 : decode cX5_barFrost 22 = .ok (.bipush (-2), 2) := by decide +kernel
theorem dX5_barFrost_24 : decode cX5_barFrost 24 = .ok (.goto 41, 3) := by decide +kernel
theorem dX5_barFrost_27 : decode cX5_barFrost 27 = .ok (.aload_n 0, 1) := by decide +kernel
theorem dX5_barFrost_28 : decode cX5_barFrost 28 = .ok (.getfield 7, 3) := by decide +kernel
theorem dX5_barFrost_31 : decode cX5_barFrost 31 = .ok (.iconst 0, 1) := by decide +kernel
theorem dX5_barFrost_32 : decode cX5_barFrost 32 = .ok (.iload_n 1, 1) := by decide +kernel
theorem dX5_barFrost_33 : decode cX5_barFrost 33 = .ok (.iload_n 2, 1) := by decide +kernel
theorem dX5_barFrost_34 : decode cX5_barFrost 34 = .ok (.invokestatic 70, 3) := by decide +kernel
theorem dX5_barFrost_37 : decode cX5_barFrost 37 = .ok (.iadd, 1) := by decide +kernel
theorem dX5_barFrost_38 : decode cX5_barFrost 38 = .ok (.iaload, 1) := by decide +kernel
theorem dX5_barFrost_39 : decode cX5_barFrost 39 = .ok (.iload_n 3, 1) := by decide +kernel
theorem dX5_barFrost_40 : decode cX5_barFrost 40 = .ok (.if_icmp .ne 24, 3) := by decide +kernel
theorem dX5_barFrost_43 : decode cX5_barFrost 43 = .ok (.aload_n 0, 1) := by decide +kernel
theorem dX5_barFrost_44 : decode cX5_barFrost 44 = .ok (.getfield 7, 3) := by decide +kernel
theorem dX5_barFrost_47 : decode cX5_barFrost 47 = .ok (.bipush 120, 2) := by decide +kernel
theorem dX5_barFrost_49 : decode cX5_barFrost 49 = .ok (.iload_n 1, 1) := by decide +kernel
theorem dX5_barFrost_50 : decode cX5_barFrost 50 = .ok (.iload_n 2, 1) := by decide +kernel
theorem dX5_barFrost_51 : decode cX5_barFrost 51 = .ok (.invokestatic 70, 3) := by decide +kernel
theorem dX5_barFrost_54 : decode cX5_barFrost 54 = .ok (.iadd, 1) := by decide +kernel
theorem dX5_barFrost_55 : decode cX5_barFrost 55 = .ok (.iaload, 1) := by decide +kernel
theorem dX5_barFrost_56 : decode cX5_barFrost 56 = .ok (.ifCond .ne 8, 3) := by decide +kernel
theorem dX5_barFrost_59 : decode cX5_barFrost 59 = .ok (.bipush (-5), 2) := by decide +kernel
theorem dX5_barFrost_61 : decode cX5_barFrost 61 = .ok (.goto 4, 3) := by decide +kernel
theorem dX5_barFrost_64 : decode cX5_barFrost 64 = .ok (.iconst 0, 1) := by decide +kernel
theorem dX5_barFrost_65 : decode cX5_barFrost 65 = .ok (.ireturn, 1) := by decide +kernel
theorem dX5_freezes_0 : decode cX5_freezes 0 = .ok (.iload_n 1, 1) := by decide +kernel
theorem dX5_freezes_1 : decode cX5_freezes 1 = .ok (.iload_n 2, 1) := by decide +kernel
theorem dX5_freezes_2 : decode cX5_freezes 2 = .ok (.invokestatic 70, 3) := by decide +kernel
theorem dX5_freezes_5 : decode cX5_freezes 5 = .ok (.istore 4, 2) := by decide +kernel
theorem dX5_freezes_7 : decode cX5_freezes 7 = .ok (.aload_n 0, 1) := by decide +kernel
theorem dX5_freezes_8 : decode cX5_freezes 8 = .ok (.getfield 7, 3) := by decide +kernel
theorem dX5_freezes_11 : decode cX5_freezes 11 = .ok (.iconst 0, 1) := by decide +kernel
theorem dX5_freezes_12 : decode cX5_freezes 12 = .ok (.iload 4, 2) := by decide +kernel
theorem dX5_freezes_14 : decode cX5_freezes 14 = .ok (.iadd, 1) := by decide +kernel
theorem dX5_freezes_15 : decode cX5_freezes 15 = .ok (.iaload, 1) := by decide +kernel
theorem dX5_freezes_16 : decode cX5_freezes 16 = .ok (.istore 5, 2) := by decide +kernel
theorem dX5_freezes_18 : decode cX5_freezes 18 = .ok (.aload_n 0, 1) := by decide +kernel
theorem dX5_freezes_19 : decode cX5_freezes 19 = .ok (.getfield 7, 3) := by decide +kernel
theorem dX5_freezes_22 : decode cX5_freezes 22 = .ok (.iconst 0, 1) := by decide +kernel
theorem dX5_freezes_23 : decode cX5_freezes 23 = .ok (.iload 4, 2) := by decide +kernel
theorem dX5_freezes_25 : decode cX5_freezes 25 = .ok (.iadd, 1) := by decide +kernel
theorem dX5_freezes_26 : decode cX5_freezes 26 = .ok (.iload_n 3, 1) := by decide +kernel
theorem dX5_freezes_27 : decode cX5_freezes 27 = .ok (.iastore, 1) := by decide +kernel
theorem dX5_freezes_28 : decode cX5_freezes 28 = .ok (.aload_n 0, 1) := by decide +kernel
theorem dX5_freezes_29 : decode cX5_freezes 29 = .ok (.getfield 7, 3) := by decide +kernel
theorem dX5_freezes_32 : decode cX5_freezes 32 = .ok (.bipush 120, 2) := by decide +kernel
theorem dX5_freezes_34 : decode cX5_freezes 34 = .ok (.iload 4, 2) := by decide +kernel
theorem dX5_freezes_36 : decode cX5_freezes 36 = .ok (.iadd, 1) := by decide +kernel
theorem dX5_freezes_37 : decode cX5_freezes 37 = .ok (.iconst 0, 1) := by decide +kernel
theorem dX5_freezes_38 : decode cX5_freezes 38 = .ok (.iastore, 1) := by decide +kernel
theorem dX5_freezes_39 : decode cX5_freezes 39 = .ok (.aload_n 0, 1) := by decide +kernel
theorem dX5_freezes_40 : decode cX5_freezes 40 = .ok (.getfield 7, 3) := by decide +kernel
theorem dX5_freezes_43 : decode cX5_freezes 43 = .ok (.sipush 240, 3) := by decide +kernel
theorem dX5_freezes_46 : decode cX5_freezes 46 = .ok (.iload 4, 2) := by decide +kernel
theorem dX5_freezes_48 : decode cX5_freezes 48 = .ok (.iadd, 1) := by decide +kernel
theorem dX5_freezes_49 : decode cX5_freezes 49 = .ok (.iconst 0, 1) := by decide +kernel
theorem dX5_freezes_50 : decode cX5_freezes 50 = .ok (.iastore, 1) := by decide +kernel
theorem dX5_freezes_51 : decode cX5_freezes 51 = .ok (.iload 5, 2) := by decide +kernel
theorem dX5_freezes_53 : decode cX5_freezes 53 = .ok (.ireturn, 1) := by decide +kernel
theorem dX5_setFrost_0 : decode cX5_setFrost 0 = .ok (.aload_n 0, 1) := by decide +kernel
theorem dX5_setFrost_1 : decode cX5_setFrost 1 = .ok (.iload_n 1, 1) := by decide +kernel
theorem dX5_setFrost_2 : decode cX5_setFrost 2 = .ok (.iload_n 2, 1) := by decide +kernel
theorem dX5_setFrost_3 : decode cX5_setFrost 3 = .ok (.iload_n 3, 1) := by decide +kernel
theorem dX5_setFrost_4 : decode cX5_setFrost 4 = .ok (.invokevirtual 73, 3) := by decide +kernel
theorem dX5_setFrost_7 : decode cX5_setFrost 7 = .ok (.istore 4, 2) := by decide +kernel
theorem dX5_setFrost_9 : decode cX5_setFrost 9 = .ok (.iload 4, 2) := by decide +kernel
theorem dX5_setFrost_11 : decode cX5_setFrost 11 = .ok (.ifCond .ge 6, 3) := by decide +kernel
theorem dX5_setFrost_14 : decode cX5_setFrost 14 = .ok (.iload 4, 2) := by decide +kernel
theorem dX5_setFrost_16 : decode cX5_setFrost 16 = .ok (.ireturn, 1) := by decide +kernel
theorem dX5_setFrost_17 : decode cX5_setFrost 17 = .ok (.aload_n 0, 1) := by decide +kernel
theorem dX5_setFrost_18 : decode cX5_setFrost 18 = .ok (.invokevirtual 57, 3) := by decide +kernel
theorem dX5_setFrost_21 : decode cX5_setFrost 21 = .ok (.aload_n 0, 1) := by decide +kernel
theorem dX5_setFrost_22 : decode cX5_setFrost 22 = .ok (.iload_n 1, 1) := by decide +kernel
theorem dX5_setFrost_23 : decode cX5_setFrost 23 = .ok (.iload_n 2, 1) := by decide +kernel
theorem dX5_setFrost_24 : decode cX5_setFrost 24 = .ok (.iload_n 3, 1) := by decide +kernel
theorem dX5_setFrost_25 : decode cX5_setFrost 25 = .ok (.invokevirtual 77, 3) := by decide +kernel
theorem dX5_setFrost_28 : decode cX5_setFrost 28 = .ok (.ireturn, 1) := by decide +kernel
theorem dX5_dries_0 : decode cX5_dries 0 = .ok (.iconst 0, 1) := by decide +kernel
theorem dX5_dries_1 : decode cX5_dries 1 = .ok (.istore_n 1, 1) := by decide +kernel
theorem dX5_dries_2 : decode cX5_dries 2 = .ok (.iload_n 1, 1) := by decide +kernel
theorem dX5_dries_3 : decode cX5_dries 3 = .ok (.bipush 120, 2) := by decide +kernel
theorem dX5_dries_5 : decode cX5_dries 5 = .ok (.if_icmp .ge 63, 3) := by decide +kernel
theorem dX5_dries_8 : decode cX5_dries 8 = .ok (.aload_n 0, 1) := by decide +kernel
theorem dX5_dries_9 : decode cX5_dries 9 = .ok (.getfield 7, 3) := by decide +kernel
theorem dX5_dries_12 : decode cX5_dries 12 = .ok (.bipush 120, 2) := by decide +kernel
theorem dX5_dries_14 : decode cX5_dries 14 = .ok (.iload_n 1, 1) := by decide +kernel
theorem dX5_dries_15 : decode cX5_dries 15 = .ok (.iadd, 1) := by decide +kernel
theorem dX5_dries_16 : decode cX5_dries 16 = .ok (.iaload, 1) := by decide +kernel
theorem dX5_dries_17 : decode cX5_dries 17 = .ok (.ifCond .le 45, 3) := by decide +kernel
theorem dX5_dries_20 : decode cX5_dries 20 = .ok (.aload_n 0, 1) := by decide +kernel
theorem dX5_dries_21 : decode cX5_dries 21 = .ok (.getfield 7, 3) := by decide +kernel
theorem dX5_dries_24 : decode cX5_dries 24 = .ok (.sipush 240, 3) := by decide +kernel
theorem dX5_dries_27 : decode cX5_dries 27 = .ok (.iload_n 1, 1) := by decide +kernel
theorem dX5_dries_28 : decode cX5_dries 28 = .ok (.iadd, 1) := by decide +kernel
theorem dX5_dries_29 : decode cX5_dries 29 = .ok (.iaload, 1) := by decide +kernel
theorem dX5_dries_30 : decode cX5_dries 30 = .ok (.aload_n 0, 1) := by decide +kernel
theorem dX5_dries_31 : decode cX5_dries 31 = .ok (.getfield 7, 3) := by decide +kernel
theorem dX5_dries_34 : decode cX5_dries 34 = .ok (.sipush 531, 3) := by decide +kernel
theorem dX5_dries_37 : decode cX5_dries 37 = .ok (.iaload, 1) := by decide +kernel
theorem dX5_dries_38 : decode cX5_dries 38 = .ok (.if_icmp .le 24, 3) := by decide +kernel
theorem dX5_dries_41 : decode cX5_dries 41 = .ok (.aload_n 0, 1) := by decide +kernel
theorem dX5_dries_42 : decode cX5_dries 42 = .ok (.getfield 7, 3) := by decide +kernel
theorem dX5_dries_45 : decode cX5_dries 45 = .ok (.bipush 120, 2) := by decide +kernel
theorem dX5_dries_47 : decode cX5_dries 47 = .ok (.iload_n 1, 1) := by decide +kernel
theorem dX5_dries_48 : decode cX5_dries 48 = .ok (.iadd, 1) := by decide +kernel
theorem dX5_dries_49 : decode cX5_dries 49 = .ok (.iconst 0, 1) := by decide +kernel
theorem dX5_dries_50 : decode cX5_dries 50 = .ok (.iastore, 1) := by decide +kernel
theorem dX5_dries_51 : decode cX5_dries 51 = .ok (.aload_n 0, 1) := by decide +kernel
theorem dX5_dries_52 : decode cX5_dries 52 = .ok (.getfield 7, 3) := by decide +kernel
theorem dX5_dries_55 : decode cX5_dries 55 = .ok (.sipush 240, 3) := by decide +kernel
theorem dX5_dries_58 : decode cX5_dries 58 = .ok (.iload_n 1, 1) := by decide +kernel
theorem dX5_dries_59 : decode cX5_dries 59 = .ok (.iadd, 1) := by decide +kernel
theorem dX5_dries_60 : decode cX5_dries 60 = .ok (.iconst 0, 1) := by decide +kernel
theorem dX5_dries_61 : decode cX5_dries 61 = .ok (.iastore, 1) := by decide +kernel
theorem dX5_dries_62 : decode cX5_dries 62 = .ok (.iinc 1 1, 3) := by decide +kernel
theorem dX5_dries_65 : decode cX5_dries 65 = .ok (.goto (-63), 3) := by decide +kernel
theorem dX5_dries_68 : decode cX5_dries 68 = .ok (.return_, 1) := by decide +kernel
theorem dX5_most_0 : decode cX5_most 0 = .ok (.iload_n 0, 1) := by decide +kernel
theorem dX5_most_1 : decode cX5_most 1 = .ok (.ifCond .ne 8, 3) := by decide +kernel
theorem dX5_most_4 : decode cX5_most 4 = .ok (.bipush 99, 2) := by decide +kernel
theorem dX5_most_6 : decode cX5_most 6 = .ok (.goto 25, 3) := by decide +kernel
theorem dX5_most_9 : decode cX5_most 9 = .ok (.iload_n 0, 1) := by decide +kernel
theorem dX5_most_10 : decode cX5_most 10 = .ok (.iconst 1, 1) := by decide +kernel
theorem dX5_most_11 : decode cX5_most 11 = .ok (.if_icmp .ne 8, 3) := by decide +kernel
theorem dX5_most_14 : decode cX5_most 14 = .ok (.bipush 9, 2) := by decide +kernel
theorem dX5_most_16 : decode cX5_most 16 = .ok (.goto 15, 3) := by decide +kernel
theorem dX5_most_19 : decode cX5_most 19 = .ok (.iload_n 0, 1) := by decide +kernel
theorem dX5_most_20 : decode cX5_most 20 = .ok (.iconst 2, 1) := by decide +kernel
theorem dX5_most_21 : decode cX5_most 21 = .ok (.if_icmp .ne 8, 3) := by decide +kernel
theorem dX5_most_24 : decode cX5_most 24 = .ok (.bipush 20, 2) := by decide +kernel
theorem dX5_most_26 : decode cX5_most 26 = .ok (.goto 5, 3) := by decide +kernel
theorem dX5_most_29 : decode cX5_most 29 = .ok (.bipush 50, 2) := by decide +kernel
theorem dX5_most_31 : decode cX5_most 31 = .ok (.ireturn, 1) := by decide +kernel
theorem dX5_set_0 : decode cX5_set 0 = .ok (.iload_n 1, 1) := by decide +kernel
theorem dX5_set_1 : decode cX5_set 1 = .ok (.iconst 0, 1) := by decide +kernel
theorem dX5_set_2 : decode cX5_set 2 = .ok (.iconst 3, 1) := by decide +kernel
theorem dX5_set_3 : decode cX5_set 3 = .ok (.invokestatic 32, 3) := by decide +kernel
theorem dX5_set_6 : decode cX5_set 6 = .ok (.ifCond .ne 5, 3) := by decide +kernel
theorem dX5_set_9 : decode cX5_set 9 = .ok (.iconst (-1), 1) := by decide +kernel
theorem dX5_set_10 : decode cX5_set 10 = .ok (.ireturn, 1) := by decide +kernel
theorem dX5_set_11 : decode cX5_set 11 = .ok (.iload_n 2, 1) := by decide +kernel
theorem dX5_set_12 : decode cX5_set 12 = .ok (.iload_n 1, 1) := by decide +kernel
theorem dX5_set_13 : decode cX5_set 13 = .ok (.ifCond .ne 7, 3) := by decide +kernel
theorem dX5_set_16 : decode cX5_set 16 = .ok (.iconst 0, 1) := by decide +kernel
theorem dX5_set_17 : decode cX5_set 17 = .ok (.goto 4, 3) := by decide +kernel
theorem dX5_set_20 : decode cX5_set 20 = .ok (.iconst 1, 1) := by decide +kernel
theorem dX5_set_21 : decode cX5_set 21 = .ok (.iload_n 1, 1) := by decide +kernel
theorem dX5_set_22 : decode cX5_set 22 = .ok (.invokestatic 80, 3) := by decide +kernel
theorem dX5_set_25 : decode cX5_set 25 = .ok (.invokestatic 32, 3) := by decide +kernel
theorem dX5_set_28 : decode cX5_set 28 = .ok (.ifCond .ne 6, 3) := by decide +kernel
theorem dX5_set_31 : decode cX5_set 31 = .ok (.bipush (-2), 2) := by decide +kernel
theorem dX5_set_33 : decode cX5_set 33 = .ok (.ireturn, 1) := by decide +kernel
theorem dX5_set_34 : decode cX5_set 34 = .ok (.aload_n 0, 1) := by decide +kernel
theorem dX5_set_35 : decode cX5_set 35 = .ok (.getfield 7, 3) := by decide +kernel
theorem dX5_set_38 : decode cX5_set 38 = .ok (.sipush 531, 3) := by decide +kernel
theorem dX5_set_41 : decode cX5_set 41 = .ok (.iload_n 1, 1) := by decide +kernel
theorem dX5_set_42 : decode cX5_set 42 = .ok (.iadd, 1) := by decide +kernel
theorem dX5_set_43 : decode cX5_set 43 = .ok (.iaload, 1) := by decide +kernel
theorem dX5_set_44 : decode cX5_set 44 = .ok (.iload_n 2, 1) := by decide +kernel
theorem dX5_set_45 : decode cX5_set 45 = .ok (.if_icmp .ne 6, 3) := by decide +kernel
theorem dX5_set_48 : decode cX5_set 48 = .ok (.bipush (-5), 2) := by decide +kernel
theorem dX5_set_50 : decode cX5_set 50 = .ok (.ireturn, 1) := by decide +kernel
theorem dX5_set_51 : decode cX5_set 51 = .ok (.aload_n 0, 1) := by decide +kernel
theorem dX5_set_52 : decode cX5_set 52 = .ok (.invokevirtual 57, 3) := by decide +kernel
theorem dX5_set_55 : decode cX5_set 55 = .ok (.aload_n 0, 1) := by decide +kernel
theorem dX5_set_56 : decode cX5_set 56 = .ok (.getfield 7, 3) := by decide +kernel
theorem dX5_set_59 : decode cX5_set 59 = .ok (.sipush 531, 3) := by decide +kernel
theorem dX5_set_62 : decode cX5_set 62 = .ok (.iload_n 1, 1) := by decide +kernel
theorem dX5_set_63 : decode cX5_set 63 = .ok (.iadd, 1) := by decide +kernel
theorem dX5_set_64 : decode cX5_set 64 = .ok (.iaload, 1) := by decide +kernel
theorem dX5_set_65 : decode cX5_set 65 = .ok (.istore_n 3, 1) := by decide +kernel
theorem dX5_set_66 : decode cX5_set 66 = .ok (.aload_n 0, 1) := by decide +kernel
theorem dX5_set_67 : decode cX5_set 67 = .ok (.getfield 7, 3) := by decide +kernel
theorem dX5_set_70 : decode cX5_set 70 = .ok (.sipush 531, 3) := by decide +kernel
theorem dX5_set_73 : decode cX5_set 73 = .ok (.iload_n 1, 1) := by decide +kernel
theorem dX5_set_74 : decode cX5_set 74 = .ok (.iadd, 1) := by decide +kernel
theorem dX5_set_75 : decode cX5_set 75 = .ok (.iload_n 2, 1) := by decide +kernel
theorem dX5_set_76 : decode cX5_set 76 = .ok (.iastore, 1) := by decide +kernel
theorem dX5_set_77 : decode cX5_set 77 = .ok (.aload_n 0, 1) := by decide +kernel
theorem dX5_set_78 : decode cX5_set 78 = .ok (.invokevirtual 84, 3) := by decide +kernel
theorem dX5_set_81 : decode cX5_set 81 = .ok (.iload_n 3, 1) := by decide +kernel
theorem dX5_set_82 : decode cX5_set 82 = .ok (.ireturn, 1) := by decide +kernel
theorem dX5_why_0 : decode cX5_why 0 = .ok (.aload_n 0, 1) := by decide +kernel
theorem dX5_why_1 : decode cX5_why 1 = .ok (.getfield 7, 3) := by decide +kernel
theorem dX5_why_4 : decode cX5_why 4 = .ok (.bipush 120, 2) := by decide +kernel
theorem dX5_why_6 : decode cX5_why 6 = .ok (.iload_n 2, 1) := by decide +kernel
theorem dX5_why_7 : decode cX5_why 7 = .ok (.iadd, 1) := by decide +kernel
theorem dX5_why_8 : decode cX5_why 8 = .ok (.iaload, 1) := by decide +kernel
theorem dX5_why_9 : decode cX5_why 9 = .ok (.iconst 1, 1) := by decide +kernel
theorem dX5_why_10 : decode cX5_why 10 = .ok (.isub, 1) := by decide +kernel
theorem dX5_why_11 : decode cX5_why 11 = .ok (.istore_n 3, 1) := by decide +kernel
theorem dX5_why_12 : decode cX5_why 12 = .ok (.iload_n 3, 1) := by decide +kernel
theorem dX5_why_13 : decode cX5_why 13 = .ok (.ifCond .ge 7, 3) := by decide +kernel
theorem dX5_why_16 : decode cX5_why 16 = .ok (.iconst 1, 1) := by decide +kernel
theorem dX5_why_17 : decode cX5_why 17 = .ok (.goto 56, 3) := by decide +kernel
theorem dX5_why_20 : decode cX5_why 20 = .ok (.iload_n 3, 1) := by decide +kernel
theorem dX5_why_21 : decode cX5_why 21 = .ok (.iload_n 1, 1) := by decide +kernel
theorem dX5_why_22 : decode cX5_why 22 = .ok (.if_icmp .ne 7, 3) := by decide +kernel
theorem dX5_why_25 : decode cX5_why 25 = .ok (.iconst 2, 1) := by decide +kernel
theorem dX5_why_26 : decode cX5_why 26 = .ok (.goto 47, 3) := by decide +kernel
theorem dX5_why_29 : decode cX5_why 29 = .ok (.aload_n 0, 1) := by decide +kernel
theorem dX5_why_30 : decode cX5_why 30 = .ok (.getfield 7, 3) := by decide +kernel
theorem dX5_why_33 : decode cX5_why 33 = .ok (.iload_n 1, 1) := by decide +kernel
theorem dX5_why_34 : decode cX5_why 34 = .ok (.bipush 8, 2) := by decide +kernel
theorem dX5_why_36 : decode cX5_why 36 = .ok (.invokestatic 40, 3) := by decide +kernel
theorem dX5_why_39 : decode cX5_why 39 = .ok (.iaload, 1) := by decide +kernel
theorem dX5_why_40 : decode cX5_why 40 = .ok (.iload_n 3, 1) := by decide +kernel
theorem dX5_why_41 : decode cX5_why 41 = .ok (.iconst 1, 1) := by decide +kernel
theorem dX5_why_42 : decode cX5_why 42 = .ok (.iadd, 1) := by decide +kernel
theorem dX5_why_43 : decode cX5_why 43 = .ok (.if_icmp .ne 29, 3) := by decide +kernel
theorem dX5_why_46 : decode cX5_why 46 = .ok (.aload_n 0, 1) := by decide +kernel
theorem dX5_why_47 : decode cX5_why 47 = .ok (.getfield 7, 3) := by decide +kernel
theorem dX5_why_50 : decode cX5_why 50 = .ok (.iload_n 1, 1) := by decide +kernel
theorem dX5_why_51 : decode cX5_why 51 = .ok (.bipush 9, 2) := by decide +kernel
theorem dX5_why_53 : decode cX5_why 53 = .ok (.invokestatic 40, 3) := by decide +kernel
theorem dX5_why_56 : decode cX5_why 56 = .ok (.iaload, 1) := by decide +kernel
theorem dX5_why_57 : decode cX5_why 57 = .ok (.aload_n 0, 1) := by decide +kernel
theorem dX5_why_58 : decode cX5_why 58 = .ok (.getfield 7, 3) := by decide +kernel
theorem dX5_why_61 : decode cX5_why 61 = .ok (.sipush 532, 3) := by decide +kernel
theorem dX5_why_64 : decode cX5_why 64 = .ok (.iaload, 1) := by decide +kernel
theorem dX5_why_65 : decode cX5_why 65 = .ok (.if_icmp .lt 7, 3) := by decide +kernel
theorem dX5_why_68 : decode cX5_why 68 = .ok (.iconst 3, 1) := by decide +kernel
theorem dX5_why_69 : decode cX5_why 69 = .ok (.goto 4, 3) := by decide +kernel
theorem dX5_why_72 : decode cX5_why 72 = .ok (.iconst 0, 1) := by decide +kernel
theorem dX5_why_73 : decode cX5_why 73 = .ok (.ireturn, 1) := by decide +kernel
theorem dX5_laneOf_0 : decode cX5_laneOf 0 = .ok (.iload_n 1, 1) := by decide +kernel
theorem dX5_laneOf_1 : decode cX5_laneOf 1 = .ok (.ifCond .ne 7, 3) := by decide +kernel
theorem dX5_laneOf_4 : decode cX5_laneOf 4 = .ok (.iload_n 0, 1) := by decide +kernel
theorem dX5_laneOf_5 : decode cX5_laneOf 5 = .ok (.goto 17, 3) := by decide +kernel
theorem dX5_laneOf_8 : decode cX5_laneOf 8 = .ok (.iload_n 1, 1) := by decide +kernel
theorem dX5_laneOf_9 : decode cX5_laneOf 9 = .ok (.iconst 1, 1) := by decide +kernel
theorem dX5_laneOf_10 : decode cX5_laneOf 10 = .ok (.if_icmp .ne 9, 3) := by decide +kernel
theorem dX5_laneOf_13 : decode cX5_laneOf 13 = .ok (.iload_n 0, 1) := by decide +kernel
theorem dX5_laneOf_14 : decode cX5_laneOf 14 = .ok (.iconst 1, 1) := by decide +kernel
theorem dX5_laneOf_15 : decode cX5_laneOf 15 = .ok (.isub, 1) := by decide +kernel
theorem dX5_laneOf_16 : decode cX5_laneOf 16 = .ok (.goto 6, 3) := by decide +kernel
theorem dX5_laneOf_19 : decode cX5_laneOf 19 = .ok (.iload_n 0, 1) := by decide +kernel
theorem dX5_laneOf_20 : decode cX5_laneOf 20 = .ok (.iconst 1, 1) := by decide +kernel
theorem dX5_laneOf_21 : decode cX5_laneOf 21 = .ok (.iadd, 1) := by decide +kernel
theorem dX5_laneOf_22 : decode cX5_laneOf 22 = .ok (.ireturn, 1) := by decide +kernel
theorem dX5_price_0 : decode cX5_price 0 = .ok (.aload_n 0, 1) := by decide +kernel
theorem dX5_price_1 : decode cX5_price 1 = .ok (.getfield 7, 3) := by decide +kernel
theorem dX5_price_4 : decode cX5_price 4 = .ok (.iload_n 1, 1) := by decide +kernel
theorem dX5_price_5 : decode cX5_price 5 = .ok (.iconst 0, 1) := by decide +kernel
theorem dX5_price_6 : decode cX5_price 6 = .ok (.invokestatic 40, 3) := by decide +kernel
theorem dX5_price_9 : decode cX5_price 9 = .ok (.iaload, 1) := by decide +kernel
theorem dX5_price_10 : decode cX5_price 10 = .ok (.iload_n 2, 1) := by decide +kernel
theorem dX5_price_11 : decode cX5_price 11 = .ok (.invokestatic 87, 3) := by decide +kernel
theorem dX5_price_14 : decode cX5_price 14 = .ok (.istore_n 3, 1) := by decide +kernel
theorem dX5_price_15 : decode cX5_price 15 = .ok (.aload_n 0, 1) := by decide +kernel
theorem dX5_price_16 : decode cX5_price 16 = .ok (.getfield 7, 3) := by decide +kernel
theorem dX5_price_19 : decode cX5_price 19 = .ok (.iload_n 1, 1) := by decide +kernel
theorem dX5_price_20 : decode cX5_price 20 = .ok (.iconst 1, 1) := by decide +kernel
theorem dX5_price_21 : decode cX5_price 21 = .ok (.invokestatic 40, 3) := by decide +kernel
theorem dX5_price_24 : decode cX5_price 24 = .ok (.iaload, 1) := by decide +kernel
theorem dX5_price_25 : decode cX5_price 25 = .ok (.iconst 1, 1) := by decide +kernel
theorem dX5_price_26 : decode cX5_price 26 = .ok (.iadd, 1) := by decide +kernel
theorem dX5_price_27 : decode cX5_price 27 = .ok (.istore 4, 2) := by decide +kernel
theorem dX5_price_29 : decode cX5_price 29 = .ok (.iload_n 3, 1) := by decide +kernel
theorem dX5_price_30 : decode cX5_price 30 = .ok (.iload 4, 2) := by decide +kernel
theorem dX5_price_32 : decode cX5_price 32 = .ok (.invokestatic 66, 3) := by decide +kernel
theorem dX5_price_35 : decode cX5_price 35 = .ok (.ifCond .eq 15, 3) := by decide +kernel
theorem dX5_price_38 : decode cX5_price 38 = .ok (.aload_n 0, 1) := by decide +kernel
theorem dX5_price_39 : decode cX5_price 39 = .ok (.iload_n 3, 1) := by decide +kernel
theorem dX5_price_40 : decode cX5_price 40 = .ok (.iload 4, 2) := by decide +kernel
theorem dX5_price_42 : decode cX5_price 42 = .ok (.invokevirtual 51, 3) := by decide +kernel
theorem dX5_price_45 : decode cX5_price 45 = .ok (.bipush (-5), 2) := by decide +kernel
theorem dX5_price_47 : decode cX5_price 47 = .ok (.if_icmp .eq 6, 3) := by decide +kernel
theorem dX5_price_50 : decode cX5_price 50 = .ok (.bipush (-5), 2) := by decide +kernel
theorem dX5_price_52 : decode cX5_price 52 = .ok (.ireturn, 1) := by decide +kernel
theorem dX5_price_53 : decode cX5_price 53 = .ok (.aload_n 0, 1) := by decide +kernel
theorem dX5_price_54 : decode cX5_price 54 = .ok (.iload_n 1, 1) := by decide +kernel
theorem dX5_price_55 : decode cX5_price 55 = .ok (.iload_n 3, 1) := by decide +kernel
theorem dX5_price_56 : decode cX5_price 56 = .ok (.iload 4, 2) := by decide +kernel
theorem dX5_price_58 : decode cX5_price 58 = .ok (.invokestatic 70, 3) := by decide +kernel
theorem dX5_price_61 : decode cX5_price 61 = .ok (.invokevirtual 90, 3) := by decide +kernel
theorem dX5_price_64 : decode cX5_price 64 = .ok (.istore 5, 2) := by decide +kernel
theorem dX5_price_66 : decode cX5_price 66 = .ok (.iload 5, 2) := by decide +kernel
theorem dX5_price_68 : decode cX5_price 68 = .ok (.ifCond .eq 9, 3) := by decide +kernel
theorem dX5_price_71 : decode cX5_price 71 = .ok (.iload 5, 2) := by decide +kernel
theorem dX5_price_73 : decode cX5_price 73 = .ok (.iconst 2, 1) := by decide +kernel
theorem dX5_price_74 : decode cX5_price 74 = .ok (.if_icmp .ne 7, 3) := by decide +kernel
theorem dX5_price_77 : decode cX5_price 77 = .ok (.iconst 1, 1) := by decide +kernel
theorem dX5_price_78 : decode cX5_price 78 = .ok (.goto 18, 3) := by decide +kernel
theorem dX5_price_81 : decode cX5_price 81 = .ok (.iconst 1, 1) := by decide +kernel
theorem dX5_price_82 : decode cX5_price 82 = .ok (.aload_n 0, 1) := by decide +kernel
theorem dX5_price_83 : decode cX5_price 83 = .ok (.getfield 7, 3) := by decide +kernel
theorem dX5_price_86 : decode cX5_price 86 = .ok (.iconst 0, 1) := by decide +kernel
theorem dX5_price_87 : decode cX5_price 87 = .ok (.iload_n 3, 1) := by decide +kernel
theorem dX5_price_88 : decode cX5_price 88 = .ok (.iload 4, 2) := by decide +kernel
theorem dX5_price_90 : decode cX5_price 90 = .ok (.invokestatic 70, 3) := by decide +kernel
theorem dX5_price_93 : decode cX5_price 93 = .ok (.iadd, 1) := by decide +kernel
theorem dX5_price_94 : decode cX5_price 94 = .ok (.iaload, 1) := by decide +kernel
theorem dX5_price_95 : decode cX5_price 95 = .ok (.iadd, 1) := by decide +kernel
theorem dX5_price_96 : decode cX5_price 96 = .ok (.ireturn, 1) := by decide +kernel
theorem dX5_chooses_0 : decode cX5_chooses 0 = .ok (.iconst 4, 1) := by decide +kernel
theorem dX5_chooses_1 : decode cX5_chooses 1 = .ok (.istore_n 2, 1) := by decide +kernel
theorem dX5_chooses_2 : decode cX5_chooses 2 = .ok (.iconst 0, 1) := by decide +kernel
theorem dX5_chooses_3 : decode cX5_chooses 3 = .ok (.istore_n 3, 1) := by decide +kernel
theorem dX5_chooses_4 : decode cX5_chooses 4 = .ok (.iload_n 3, 1) := by decide +kernel
theorem dX5_chooses_5 : decode cX5_chooses 5 = .ok (.iconst 3, 1) := by decide +kernel
theorem dX5_chooses_6 : decode cX5_chooses 6 = .ok (.if_icmp .ge 46, 3) := by decide +kernel
theorem dX5_chooses_9 : decode cX5_chooses 9 = .ok (.aload_n 0, 1) := by decide +kernel
theorem dX5_chooses_10 : decode cX5_chooses 10 = .ok (.iload_n 1, 1) := by decide +kernel
theorem dX5_chooses_11 : decode cX5_chooses 11 = .ok (.iload_n 3, 1) := by decide +kernel
theorem dX5_chooses_12 : decode cX5_chooses 12 = .ok (.invokevirtual 93, 3) := by decide +kernel
theorem dX5_chooses_15 : decode cX5_chooses 15 = .ok (.istore 4, 2) := by decide +kernel
theorem dX5_chooses_17 : decode cX5_chooses 17 = .ok (.iload 4, 2) := by decide +kernel
theorem dX5_chooses_19 : decode cX5_chooses 19 = .ok (.bipush (-5), 2) := by decide +kernel
theorem dX5_chooses_21 : decode cX5_chooses 21 = .ok (.if_icmp .eq 23, 3) := by decide +kernel
theorem dX5_chooses_24 : decode cX5_chooses 24 = .ok (.iload_n 2, 1) := by decide +kernel
theorem dX5_chooses_25 : decode cX5_chooses 25 = .ok (.iconst 4, 1) := by decide +kernel
theorem dX5_chooses_26 : decode cX5_chooses 26 = .ok (.if_icmp .eq 14, 3) := by decide +kernel
theorem dX5_chooses_29 : decode cX5_chooses 29 = .ok (.iload 4, 2) := by decide +kernel
theorem dX5_chooses_31 : decode cX5_chooses 31 = .ok (.aload_n 0, 1) := by decide +kernel
theorem dX5_chooses_32 : decode cX5_chooses 32 = .ok (.iload_n 1, 1) := by decide +kernel
theorem dX5_chooses_33 : decode cX5_chooses 33 = .ok (.iload_n 2, 1) := by decide +kernel
theorem dX5_chooses_34 : decode cX5_chooses 34 = .ok (.invokevirtual 93, 3) := by decide +kernel
theorem dX5_chooses_37 : decode cX5_chooses 37 = .ok (.if_icmp .ge 7, 3) := by decide +kernel
theorem dX5_chooses_40 : decode cX5_chooses 40 = .ok (.iload_n 3, 1) := by decide +kernel
theorem dX5_chooses_41 : decode cX5_chooses 41 = .ok (.goto 4, 3) := by decide +kernel
theorem dX5_chooses_44 : decode cX5_chooses 44 = .ok (.iload_n 2, 1) := by decide +kernel
theorem dX5_chooses_45 : decode cX5_chooses 45 = .ok (.istore_n 2, 1) := by decide +kernel
theorem dX5_chooses_46 : decode cX5_chooses 46 = .ok (.iinc 3 1, 3) := by decide +kernel
theorem dX5_chooses_49 : decode cX5_chooses 49 = .ok (.goto (-45), 3) := by decide +kernel
theorem dX5_chooses_52 : decode cX5_chooses 52 = .ok (.iload_n 2, 1) := by decide +kernel
theorem dX5_chooses_53 : decode cX5_chooses 53 = .ok (.iconst 4, 1) := by decide +kernel
theorem dX5_chooses_54 : decode cX5_chooses 54 = .ok (.if_icmp .ge 26, 3) := by decide +kernel
theorem dX5_chooses_57 : decode cX5_chooses 57 = .ok (.aload_n 0, 1) := by decide +kernel
theorem dX5_chooses_58 : decode cX5_chooses 58 = .ok (.iload_n 1, 1) := by decide +kernel
theorem dX5_chooses_59 : decode cX5_chooses 59 = .ok (.iload_n 2, 1) := by decide +kernel
theorem dX5_chooses_60 : decode cX5_chooses 60 = .ok (.invokevirtual 93, 3) := by decide +kernel
theorem dX5_chooses_63 : decode cX5_chooses 63 = .ok (.aload_n 0, 1) := by decide +kernel
theorem dX5_chooses_64 : decode cX5_chooses 64 = .ok (.getfield 7, 3) := by decide +kernel
theorem dX5_chooses_67 : decode cX5_chooses 67 = .ok (.iload_n 1, 1) := by decide +kernel
theorem dX5_chooses_68 : decode cX5_chooses 68 = .ok (.iconst 2, 1) := by decide +kernel
theorem dX5_chooses_69 : decode cX5_chooses 69 = .ok (.invokestatic 40, 3) := by decide +kernel
theorem dX5_chooses_72 : decode cX5_chooses 72 = .ok (.iaload, 1) := by decide +kernel
theorem dX5_chooses_73 : decode cX5_chooses 73 = .ok (.if_icmp .le 7, 3) := by decide +kernel
theorem dX5_chooses_76 : decode cX5_chooses 76 = .ok (.iconst 3, 1) := by decide +kernel
theorem dX5_chooses_77 : decode cX5_chooses 77 = .ok (.goto 4, 3) := by decide +kernel
theorem dX5_chooses_80 : decode cX5_chooses 80 = .ok (.iload_n 2, 1) := by decide +kernel
theorem dX5_chooses_81 : decode cX5_chooses 81 = .ok (.ireturn, 1) := by decide +kernel
theorem dX5_creep_0 : decode cX5_creep 0 = .ok (.aload_n 0, 1) := by decide +kernel
theorem dX5_creep_1 : decode cX5_creep 1 = .ok (.getfield 7, 3) := by decide +kernel
theorem dX5_creep_4 : decode cX5_creep 4 = .ok (.iload_n 1, 1) := by decide +kernel
theorem dX5_creep_5 : decode cX5_creep 5 = .ok (.iconst 0, 1) := by decide +kernel
theorem dX5_creep_6 : decode cX5_creep 6 = .ok (.invokestatic 40, 3) := by decide +kernel
theorem dX5_creep_9 : decode cX5_creep 9 = .ok (.iaload, 1) := by decide +kernel
theorem dX5_creep_10 : decode cX5_creep 10 = .ok (.aload_n 0, 1) := by decide +kernel
theorem dX5_creep_11 : decode cX5_creep 11 = .ok (.getfield 7, 3) := by decide +kernel
theorem dX5_creep_14 : decode cX5_creep 14 = .ok (.iload_n 1, 1) := by decide +kernel
theorem dX5_creep_15 : decode cX5_creep 15 = .ok (.iconst 1, 1) := by decide +kernel
theorem dX5_creep_16 : decode cX5_creep 16 = .ok (.invokestatic 40, 3) := by decide +kernel
theorem dX5_creep_19 : decode cX5_creep 19 = .ok (.iaload, 1) := by decide +kernel
theorem dX5_creep_20 : decode cX5_creep 20 = .ok (.invokestatic 70, 3) := by decide +kernel
theorem dX5_creep_23 : decode cX5_creep 23 = .ok (.istore_n 3, 1) := by decide +kernel
theorem dX5_creep_24 : decode cX5_creep 24 = .ok (.aload_n 0, 1) := by decide +kernel
theorem dX5_creep_25 : decode cX5_creep 25 = .ok (.getfield 7, 3) := by decide +kernel
theorem dX5_creep_28 : decode cX5_creep 28 = .ok (.iload_n 1, 1) := by decide +kernel
theorem dX5_creep_29 : decode cX5_creep 29 = .ok (.iconst 0, 1) := by decide +kernel
theorem dX5_creep_30 : decode cX5_creep 30 = .ok (.invokestatic 40, 3) := by decide +kernel
theorem dX5_creep_33 : decode cX5_creep 33 = .ok (.iaload, 1) := by decide +kernel
theorem dX5_creep_34 : decode cX5_creep 34 = .ok (.iload_n 2, 1) := by decide +kernel
theorem dX5_creep_35 : decode cX5_creep 35 = .ok (.invokestatic 87, 3) := by decide +kernel
theorem dX5_creep_38 : decode cX5_creep 38 = .ok (.istore 4, 2) := by decide +kernel
theorem dX5_creep_40 : decode cX5_creep 40 = .ok (.iload 4, 2) := by decide +kernel
theorem dX5_creep_42 : decode cX5_creep 42 = .ok (.aload_n 0, 1) := by decide +kernel
theorem dX5_creep_43 : decode cX5_creep 43 = .ok (.getfield 7, 3) := by decide +kernel
theorem dX5_creep_46 : decode cX5_creep 46 = .ok (.iload_n 1, 1) := by decide +kernel
theorem dX5_creep_47 : decode cX5_creep 47 = .ok (.iconst 1, 1) := by decide +kernel
theorem dX5_creep_48 : decode cX5_creep 48 = .ok (.invokestatic 40, 3) := by decide +kernel
theorem dX5_creep_51 : decode cX5_creep 51 = .ok (.iaload, 1) := by decide +kernel
theorem dX5_creep_52 : decode cX5_creep 52 = .ok (.iconst 1, 1) := by decide +kernel
theorem dX5_creep_53 : decode cX5_creep 53 = .ok (.iadd, 1) := by decide +kernel
theorem dX5_creep_54 : decode cX5_creep 54 = .ok (.invokestatic 70, 3) := by decide +kernel
theorem dX5_creep_57 : decode cX5_creep 57 = .ok (.istore 5, 2) := by decide +kernel
theorem dX5_creep_59 : decode cX5_creep 59 = .ok (.aload_n 0, 1) := by decide +kernel
theorem dX5_creep_60 : decode cX5_creep 60 = .ok (.iload_n 1, 1) := by decide +kernel
theorem dX5_creep_61 : decode cX5_creep 61 = .ok (.iload 5, 2) := by decide +kernel
theorem dX5_creep_63 : decode cX5_creep 63 = .ok (.invokevirtual 90, 3) := by decide +kernel
theorem dX5_creep_66 : decode cX5_creep 66 = .ok (.ifCond .ne 7, 3) := by decide +kernel
theorem dX5_creep_69 : decode cX5_creep 69 = .ok (.iconst 1, 1) := by decide +kernel
theorem dX5_creep_70 : decode cX5_creep 70 = .ok (.goto 4, 3) := by decide +kernel
theorem dX5_creep_73 : decode cX5_creep 73 = .ok (.iconst 0, 1) := by decide +kernel
theorem dX5_creep_74 : decode cX5_creep 74 = .ok (.istore 6, 2) := by decide +kernel
theorem dX5_creep_76 : decode cX5_creep 76 = .ok (.aload_n 0, 1) := by decide +kernel
theorem dX5_creep_77 : decode cX5_creep 77 = .ok (.getfield 7, 3) := by decide +kernel
theorem dX5_creep_80 : decode cX5_creep 80 = .ok (.iload_n 1, 1) := by decide +kernel
theorem dX5_creep_81 : decode cX5_creep 81 = .ok (.iconst 2, 1) := by decide +kernel
theorem dX5_creep_82 : decode cX5_creep 82 = .ok (.invokestatic 40, 3) := by decide +kernel
theorem dX5_creep_85 : decode cX5_creep 85 = .ok (.dup2, 1) := by decide +kernel
theorem dX5_creep_86 : decode cX5_creep 86 = .ok (.iaload, 1) := by decide +kernel
theorem dX5_creep_87 : decode cX5_creep 87 = .ok (.aload_n 0, 1) := by decide +kernel
theorem dX5_creep_88 : decode cX5_creep 88 = .ok (.iload_n 1, 1) := by decide +kernel
theorem dX5_creep_89 : decode cX5_creep 89 = .ok (.iload_n 2, 1) := by decide +kernel
theorem dX5_creep_90 : decode cX5_creep 90 = .ok (.invokevirtual 93, 3) := by decide +kernel
theorem dX5_creep_93 : decode cX5_creep 93 = .ok (.isub, 1) := by decide +kernel
theorem dX5_creep_94 : decode cX5_creep 94 = .ok (.iastore, 1) := by decide +kernel
theorem dX5_creep_95 : decode cX5_creep 95 = .ok (.aload_n 0, 1) := by decide +kernel
theorem dX5_creep_96 : decode cX5_creep 96 = .ok (.getfield 7, 3) := by decide +kernel
theorem dX5_creep_99 : decode cX5_creep 99 = .ok (.iload_n 1, 1) := by decide +kernel
theorem dX5_creep_100 : decode cX5_creep 100 = .ok (.iconst 5, 1) := by decide +kernel
theorem dX5_creep_101 : decode cX5_creep 101 = .ok (.invokestatic 40, 3) := by decide +kernel
theorem dX5_creep_104 : decode cX5_creep 104 = .ok (.dup2, 1) := by decide +kernel
theorem dX5_creep_105 : decode cX5_creep 105 = .ok (.iaload, 1) := by decide +kernel
theorem dX5_creep_106 : decode cX5_creep 106 = .ok (.iconst 1, 1) := by decide +kernel
theorem dX5_creep_107 : decode cX5_creep 107 = .ok (.iadd, 1) := by decide +kernel
theorem dX5_creep_108 : decode cX5_creep 108 = .ok (.iastore, 1) := by decide +kernel
theorem dX5_creep_109 : decode cX5_creep 109 = .ok (.iload 6, 2) := by decide +kernel
theorem dX5_creep_111 : decode cX5_creep 111 = .ok (.ifCond .eq 112, 3) := by decide +kernel
theorem dX5_creep_114 : decode cX5_creep 114 = .ok (.aload_n 0, 1) := by decide +kernel
theorem dX5_creep_115 : decode cX5_creep 115 = .ok (.getfield 7, 3) := by decide +kernel
theorem dX5_creep_118 : decode cX5_creep 118 = .ok (.bipush 120, 2) := by decide +kernel
theorem dX5_creep_120 : decode cX5_creep 120 = .ok (.iload 5, 2) := by decide +kernel
theorem dX5_creep_122 : decode cX5_creep 122 = .ok (.iadd, 1) := by decide +kernel
theorem dX5_creep_123 : decode cX5_creep 123 = .ok (.iaload, 1) := by decide +kernel
theorem dX5_creep_124 : decode cX5_creep 124 = .ok (.istore 7, 2) := by decide +kernel
theorem dX5_creep_126 : decode cX5_creep 126 = .ok (.aload_n 0, 1) := by decide +kernel
theorem dX5_creep_127 : decode cX5_creep 127 = .ok (.getfield 7, 3) := by decide +kernel
theorem dX5_creep_130 : decode cX5_creep 130 = .ok (.iload_n 1, 1) := by decide +kernel
theorem dX5_creep_131 : decode cX5_creep 131 = .ok (.bipush 9, 2) := by decide +kernel
theorem dX5_creep_133 : decode cX5_creep 133 = .ok (.invokestatic 40, 3) := by decide +kernel
theorem dX5_creep_136 : decode cX5_creep 136 = .ok (.aload_n 0, 1) := by decide +kernel
theorem dX5_creep_137 : decode cX5_creep 137 = .ok (.getfield 7, 3) := by decide +kernel
theorem dX5_creep_140 : decode cX5_creep 140 = .ok (.iload_n 1, 1) := by decide +kernel
theorem dX5_creep_141 : decode cX5_creep 141 = .ok (.bipush 8, 2) := by decide +kernel
theorem dX5_creep_143 : decode cX5_creep 143 = .ok (.invokestatic 40, 3) := by decide +kernel
theorem dX5_creep_146 : decode cX5_creep 146 = .ok (.iaload, 1) := by decide +kernel
theorem dX5_creep_147 : decode cX5_creep 147 = .ok (.iload 7, 2) := by decide +kernel
theorem dX5_creep_149 : decode cX5_creep 149 = .ok (.if_icmp .ne 19, 3) := by decide +kernel
theorem dX5_creep_152 : decode cX5_creep 152 = .ok (.aload_n 0, 1) := by decide +kernel
theorem dX5_creep_153 : decode cX5_creep 153 = .ok (.getfield 7, 3) := by decide +kernel
theorem dX5_creep_156 : decode cX5_creep 156 = .ok (.iload_n 1, 1) := by decide +kernel
theorem dX5_creep_157 : decode cX5_creep 157 = .ok (.bipush 9, 2) := by decide +kernel
theorem dX5_creep_159 : decode cX5_creep 159 = .ok (.invokestatic 40, 3) := by decide +kernel
theorem dX5_creep_162 : decode cX5_creep 162 = .ok (.iaload, 1) := by decide +kernel
theorem dX5_creep_163 : decode cX5_creep 163 = .ok (.iconst 1, 1) := by decide +kernel
theorem dX5_creep_164 : decode cX5_creep 164 = .ok (.iadd, 1) := by decide +kernel
theorem dX5_creep_165 : decode cX5_creep 165 = .ok (.goto 4, 3) := by decide +kernel
theorem dX5_creep_168 : decode cX5_creep 168 = .ok (.iconst 1, 1) := by decide +kernel
theorem dX5_creep_169 : decode cX5_creep 169 = .ok (.iastore, 1) := by decide +kernel
theorem dX5_creep_170 : decode cX5_creep 170 = .ok (.aload_n 0, 1) := by decide +kernel
theorem dX5_creep_171 : decode cX5_creep 171 = .ok (.getfield 7, 3) := by decide +kernel
theorem dX5_creep_174 : decode cX5_creep 174 = .ok (.iload_n 1, 1) := by decide +kernel
theorem dX5_creep_175 : decode cX5_creep 175 = .ok (.bipush 8, 2) := by decide +kernel
theorem dX5_creep_177 : decode cX5_creep 177 = .ok (.invokestatic 40, 3) := by decide +kernel
theorem dX5_creep_180 : decode cX5_creep 180 = .ok (.iload 7, 2) := by decide +kernel
theorem dX5_creep_182 : decode cX5_creep 182 = .ok (.iastore, 1) := by decide +kernel
theorem dX5_creep_183 : decode cX5_creep 183 = .ok (.aload_n 0, 1) := by decide +kernel
theorem dX5_creep_184 : decode cX5_creep 184 = .ok (.getfield 7, 3) := by decide +kernel
theorem dX5_creep_187 : decode cX5_creep 187 = .ok (.iload_n 1, 1) := by decide +kernel
theorem dX5_creep_188 : decode cX5_creep 188 = .ok (.bipush 6, 2) := by decide +kernel
theorem dX5_creep_190 : decode cX5_creep 190 = .ok (.invokestatic 40, 3) := by decide +kernel
theorem dX5_creep_193 : decode cX5_creep 193 = .ok (.dup2, 1) := by decide +kernel
theorem dX5_creep_194 : decode cX5_creep 194 = .ok (.iaload, 1) := by decide +kernel
theorem dX5_creep_195 : decode cX5_creep 195 = .ok (.iconst 1, 1) := by decide +kernel
theorem dX5_creep_196 : decode cX5_creep 196 = .ok (.iadd, 1) := by decide +kernel
theorem dX5_creep_197 : decode cX5_creep 197 = .ok (.iastore, 1) := by decide +kernel
theorem dX5_creep_198 : decode cX5_creep 198 = .ok (.aload_n 0, 1) := by decide +kernel
theorem dX5_creep_199 : decode cX5_creep 199 = .ok (.getfield 7, 3) := by decide +kernel
theorem dX5_creep_202 : decode cX5_creep 202 = .ok (.sipush 450, 3) := by decide +kernel
theorem dX5_creep_205 : decode cX5_creep 205 = .ok (.bipush 9, 2) := by decide +kernel
theorem dX5_creep_207 : decode cX5_creep 207 = .ok (.iload_n 1, 1) := by decide +kernel
theorem dX5_creep_208 : decode cX5_creep 208 = .ok (.imul, 1) := by decide +kernel
theorem dX5_creep_209 : decode cX5_creep 209 = .ok (.iadd, 1) := by decide +kernel
theorem dX5_creep_210 : decode cX5_creep 210 = .ok (.iload 7, 2) := by decide +kernel
theorem dX5_creep_212 : decode cX5_creep 212 = .ok (.iadd, 1) := by decide +kernel
theorem dX5_creep_213 : decode cX5_creep 213 = .ok (.iconst 1, 1) := by decide +kernel
theorem dX5_creep_214 : decode cX5_creep 214 = .ok (.isub, 1) := by decide +kernel
theorem dX5_creep_215 : decode cX5_creep 215 = .ok (.dup2, 1) := by decide +kernel
theorem dX5_creep_216 : decode cX5_creep 216 = .ok (.iaload, 1) := by decide +kernel
theorem dX5_creep_217 : decode cX5_creep 217 = .ok (.iconst 1, 1) := by decide +kernel
theorem dX5_creep_218 : decode cX5_creep 218 = .ok (.iadd, 1) := by decide +kernel
theorem dX5_creep_219 : decode cX5_creep 219 = .ok (.iastore, 1) := by decide +kernel
theorem dX5_creep_220 : decode cX5_creep 220 = .ok (.goto 27, 3) := by decide +kernel
theorem dX5_creep_223 : decode cX5_creep 223 = .ok (.aload_n 0, 1) := by decide +kernel
theorem dX5_creep_224 : decode cX5_creep 224 = .ok (.getfield 7, 3) := by decide +kernel
theorem dX5_creep_227 : decode cX5_creep 227 = .ok (.iload_n 1, 1) := by decide +kernel
theorem dX5_creep_228 : decode cX5_creep 228 = .ok (.bipush 8, 2) := by decide +kernel
theorem dX5_creep_230 : decode cX5_creep 230 = .ok (.invokestatic 40, 3) := by decide +kernel
theorem dX5_creep_233 : decode cX5_creep 233 = .ok (.iconst 0, 1) := by decide +kernel
theorem dX5_creep_234 : decode cX5_creep 234 = .ok (.iastore, 1) := by decide +kernel
theorem dX5_creep_235 : decode cX5_creep 235 = .ok (.aload_n 0, 1) := by decide +kernel
theorem dX5_creep_236 : decode cX5_creep 236 = .ok (.getfield 7, 3) := by decide +kernel
theorem dX5_creep_239 : decode cX5_creep 239 = .ok (.iload_n 1, 1) := by decide +kernel
theorem dX5_creep_240 : decode cX5_creep 240 = .ok (.bipush 9, 2) := by decide +kernel
theorem dX5_creep_242 : decode cX5_creep 242 = .ok (.invokestatic 40, 3) := by decide +kernel
theorem dX5_creep_245 : decode cX5_creep 245 = .ok (.iconst 0, 1) := by decide +kernel
theorem dX5_creep_246 : decode cX5_creep 246 = .ok (.iastore, 1) := by decide +kernel
theorem dX5_creep_247 : decode cX5_creep 247 = .ok (.aload_n 0, 1) := by decide +kernel
theorem dX5_creep_248 : decode cX5_creep 248 = .ok (.getfield 7, 3) := by decide +kernel
theorem dX5_creep_251 : decode cX5_creep 251 = .ok (.bipush 120, 2) := by decide +kernel
theorem dX5_creep_253 : decode cX5_creep 253 = .ok (.iload_n 3, 1) := by decide +kernel
theorem dX5_creep_254 : decode cX5_creep 254 = .ok (.iadd, 1) := by decide +kernel
theorem dX5_creep_255 : decode cX5_creep 255 = .ok (.iload_n 1, 1) := by decide +kernel
theorem dX5_creep_256 : decode cX5_creep 256 = .ok (.iconst 1, 1) := by decide +kernel
theorem dX5_creep_257 : decode cX5_creep 257 = .ok (.iadd, 1) := by decide +kernel
theorem dX5_creep_258 : decode cX5_creep 258 = .ok (.iastore, 1) := by decide +kernel
theorem dX5_creep_259 : decode cX5_creep 259 = .ok (.aload_n 0, 1) := by decide +kernel
theorem dX5_creep_260 : decode cX5_creep 260 = .ok (.getfield 7, 3) := by decide +kernel
theorem dX5_creep_263 : decode cX5_creep 263 = .ok (.sipush 240, 3) := by decide +kernel
theorem dX5_creep_266 : decode cX5_creep 266 = .ok (.iload_n 3, 1) := by decide +kernel
theorem dX5_creep_267 : decode cX5_creep 267 = .ok (.iadd, 1) := by decide +kernel
theorem dX5_creep_268 : decode cX5_creep 268 = .ok (.iconst 0, 1) := by decide +kernel
theorem dX5_creep_269 : decode cX5_creep 269 = .ok (.iastore, 1) := by decide +kernel
theorem dX5_creep_270 : decode cX5_creep 270 = .ok (.aload_n 0, 1) := by decide +kernel
theorem dX5_creep_271 : decode cX5_creep 271 = .ok (.getfield 7, 3) := by decide +kernel
theorem dX5_creep_274 : decode cX5_creep 274 = .ok (.iload_n 1, 1) := by decide +kernel
theorem dX5_creep_275 : decode cX5_creep 275 = .ok (.iconst 0, 1) := by decide +kernel
theorem dX5_creep_276 : decode cX5_creep 276 = .ok (.invokestatic 40, 3) := by decide +kernel
theorem dX5_creep_279 : decode cX5_creep 279 = .ok (.iload 4, 2) := by decide +kernel
theorem dX5_creep_281 : decode cX5_creep 281 = .ok (.iastore, 1) := by decide +kernel
theorem dX5_creep_282 : decode cX5_creep 282 = .ok (.aload_n 0, 1) := by decide +kernel
theorem dX5_creep_283 : decode cX5_creep 283 = .ok (.getfield 7, 3) := by decide +kernel
theorem dX5_creep_286 : decode cX5_creep 286 = .ok (.iload_n 1, 1) := by decide +kernel
theorem dX5_creep_287 : decode cX5_creep 287 = .ok (.iconst 1, 1) := by decide +kernel
theorem dX5_creep_288 : decode cX5_creep 288 = .ok (.invokestatic 40, 3) := by decide +kernel
theorem dX5_creep_291 : decode cX5_creep 291 = .ok (.dup2, 1) := by decide +kernel
theorem dX5_creep_292 : decode cX5_creep 292 = .ok (.iaload, 1) := by decide +kernel
theorem dX5_creep_293 : decode cX5_creep 293 = .ok (.iconst 1, 1) := by decide +kernel
theorem dX5_creep_294 : decode cX5_creep 294 = .ok (.iadd, 1) := by decide +kernel
theorem dX5_creep_295 : decode cX5_creep 295 = .ok (.iastore, 1) := by decide +kernel
theorem dX5_creep_296 : decode cX5_creep 296 = .ok (.aload_n 0, 1) := by decide +kernel
theorem dX5_creep_297 : decode cX5_creep 297 = .ok (.getfield 7, 3) := by decide +kernel
theorem dX5_creep_300 : decode cX5_creep 300 = .ok (.iload_n 1, 1) := by decide +kernel
theorem dX5_creep_301 : decode cX5_creep 301 = .ok (.iconst 1, 1) := by decide +kernel
theorem dX5_creep_302 : decode cX5_creep 302 = .ok (.invokestatic 40, 3) := by decide +kernel
theorem dX5_creep_305 : decode cX5_creep 305 = .ok (.iaload, 1) := by decide +kernel
theorem dX5_creep_306 : decode cX5_creep 306 = .ok (.bipush 19, 2) := by decide +kernel
theorem dX5_creep_308 : decode cX5_creep 308 = .ok (.if_icmp .ne 44, 3) := by decide +kernel
theorem dX5_creep_311 : decode cX5_creep 311 = .ok (.aload_n 0, 1) := by decide +kernel
theorem dX5_creep_312 : decode cX5_creep 312 = .ok (.getfield 7, 3) := by decide +kernel
theorem dX5_creep_315 : decode cX5_creep 315 = .ok (.sipush 537, 3) := by decide +kernel
theorem dX5_creep_318 : decode cX5_creep 318 = .ok (.dup2, 1) := by decide +kernel
theorem dX5_creep_319 : decode cX5_creep 319 = .ok (.iaload, 1) := by decide +kernel
theorem dX5_creep_320 : decode cX5_creep 320 = .ok (.iconst 1, 1) := by decide +kernel
theorem dX5_creep_321 : decode cX5_creep 321 = .ok (.iadd, 1) := by decide +kernel
theorem dX5_creep_322 : decode cX5_creep 322 = .ok (.iastore, 1) := by decide +kernel
theorem dX5_creep_323 : decode cX5_creep 323 = .ok (.aload_n 0, 1) := by decide +kernel
theorem dX5_creep_324 : decode cX5_creep 324 = .ok (.getfield 7, 3) := by decide +kernel
theorem dX5_creep_327 : decode cX5_creep 327 = .ok (.iload_n 1, 1) := by decide +kernel
theorem dX5_creep_328 : decode cX5_creep 328 = .ok (.iconst 3, 1) := by decide +kernel
theorem dX5_creep_329 : decode cX5_creep 329 = .ok (.invokestatic 40, 3) := by decide +kernel
theorem dX5_creep_332 : decode cX5_creep 332 = .ok (.iconst 1, 1) := by decide +kernel
theorem dX5_creep_333 : decode cX5_creep 333 = .ok (.iastore, 1) := by decide +kernel
theorem dX5_creep_334 : decode cX5_creep 334 = .ok (.aload_n 0, 1) := by decide +kernel
theorem dX5_creep_335 : decode cX5_creep 335 = .ok (.getfield 7, 3) := by decide +kernel
theorem dX5_creep_338 : decode cX5_creep 338 = .ok (.iload_n 1, 1) := by decide +kernel
theorem dX5_creep_339 : decode cX5_creep 339 = .ok (.iconst 4, 1) := by decide +kernel
theorem dX5_creep_340 : decode cX5_creep 340 = .ok (.invokestatic 40, 3) := by decide +kernel
theorem dX5_creep_343 : decode cX5_creep 343 = .ok (.aload_n 0, 1) := by decide +kernel
theorem dX5_creep_344 : decode cX5_creep 344 = .ok (.getfield 7, 3) := by decide +kernel
theorem dX5_creep_347 : decode cX5_creep 347 = .ok (.sipush 537, 3) := by decide +kernel
theorem dX5_creep_350 : decode cX5_creep 350 = .ok (.iaload, 1) := by decide +kernel
theorem dX5_creep_351 : decode cX5_creep 351 = .ok (.iastore, 1) := by decide +kernel
theorem dX5_creep_352 : decode cX5_creep 352 = .ok (.return_, 1) := by decide +kernel
theorem dX5_turn_0 : decode cX5_turn 0 = .ok (.iconst 0, 1) := by decide +kernel
theorem dX5_turn_1 : decode cX5_turn 1 = .ok (.istore_n 1, 1) := by decide +kernel
theorem dX5_turn_2 : decode cX5_turn 2 = .ok (.iload_n 1, 1) := by decide +kernel
theorem dX5_turn_3 : decode cX5_turn 3 = .ok (.aload_n 0, 1) := by decide +kernel
theorem dX5_turn_4 : decode cX5_turn 4 = .ok (.getfield 7, 3) := by decide +kernel
theorem dX5_turn_7 : decode cX5_turn 7 = .ok (.sipush 535, 3) := by decide +kernel
theorem dX5_turn_10 : decode cX5_turn 10 = .ok (.iaload, 1) := by decide +kernel
theorem dX5_turn_11 : decode cX5_turn 11 = .ok (.if_icmp .ge 118, 3) := by decide +kernel
theorem dX5_turn_14 : decode cX5_turn 14 = .ok (.aload_n 0, 1) := by decide +kernel
theorem dX5_turn_15 : decode cX5_turn 15 = .ok (.iload_n 1, 1) := by decide +kernel
theorem dX5_turn_16 : decode cX5_turn 16 = .ok (.invokevirtual 48, 3) := by decide +kernel
theorem dX5_turn_19 : decode cX5_turn 19 = .ok (.ifCond .eq 104, 3) := by decide +kernel
theorem dX5_turn_22 : decode cX5_turn 22 = .ok (.aload_n 0, 1) := by decide +kernel
theorem dX5_turn_23 : decode cX5_turn 23 = .ok (.iload_n 1, 1) := by decide +kernel
theorem dX5_turn_24 : decode cX5_turn 24 = .ok (.invokevirtual 96, 3) := by decide +kernel
theorem dX5_turn_27 : decode cX5_turn 27 = .ok (.istore_n 2, 1) := by decide +kernel
theorem dX5_turn_28 : decode cX5_turn 28 = .ok (.iload_n 2, 1) := by decide +kernel
theorem dX5_turn_29 : decode cX5_turn 29 = .ok (.iconst 3, 1) := by decide +kernel
theorem dX5_turn_30 : decode cX5_turn 30 = .ok (.if_icmp .ge 12, 3) := by decide +kernel
theorem dX5_turn_33 : decode cX5_turn 33 = .ok (.aload_n 0, 1) := by decide +kernel
theorem dX5_turn_34 : decode cX5_turn 34 = .ok (.iload_n 1, 1) := by decide +kernel
theorem dX5_turn_35 : decode cX5_turn 35 = .ok (.iload_n 2, 1) := by decide +kernel
theorem dX5_turn_36 : decode cX5_turn 36 = .ok (.invokevirtual 99, 3) := by decide +kernel
theorem dX5_turn_39 : decode cX5_turn 39 = .ok (.goto 84, 3) := by decide +kernel
theorem dX5_turn_42 : decode cX5_turn 42 = .ok (.aload_n 0, 1) := by decide +kernel
theorem dX5_turn_43 : decode cX5_turn 43 = .ok (.getfield 7, 3) := by decide +kernel
theorem dX5_turn_46 : decode cX5_turn 46 = .ok (.iload_n 1, 1) := by decide +kernel
theorem dX5_turn_47 : decode cX5_turn 47 = .ok (.iconst 2, 1) := by decide +kernel
theorem dX5_turn_48 : decode cX5_turn 48 = .ok (.invokestatic 40, 3) := by decide +kernel
theorem dX5_turn_51 : decode cX5_turn 51 = .ok (.iaload, 1) := by decide +kernel
theorem dX5_turn_52 : decode cX5_turn 52 = .ok (.aload_n 0, 1) := by decide +kernel
theorem dX5_turn_53 : decode cX5_turn 53 = .ok (.getfield 7, 3) := by decide +kernel
theorem dX5_turn_56 : decode cX5_turn 56 = .ok (.sipush 533, 3) := by decide +kernel
theorem dX5_turn_59 : decode cX5_turn 59 = .ok (.iaload, 1) := by decide +kernel
theorem dX5_turn_60 : decode cX5_turn 60 = .ok (.iadd, 1) := by decide +kernel
theorem dX5_turn_61 : decode cX5_turn 61 = .ok (.istore_n 3, 1) := by decide +kernel
theorem dX5_turn_62 : decode cX5_turn 62 = .ok (.aload_n 0, 1) := by decide +kernel
theorem dX5_turn_63 : decode cX5_turn 63 = .ok (.getfield 7, 3) := by decide +kernel
theorem dX5_turn_66 : decode cX5_turn 66 = .ok (.iload_n 1, 1) := by decide +kernel
theorem dX5_turn_67 : decode cX5_turn 67 = .ok (.iconst 2, 1) := by decide +kernel
theorem dX5_turn_68 : decode cX5_turn 68 = .ok (.invokestatic 40, 3) := by decide +kernel
theorem dX5_turn_71 : decode cX5_turn 71 = .ok (.iload_n 3, 1) := by decide +kernel
theorem dX5_turn_72 : decode cX5_turn 72 = .ok (.bipush 99, 2) := by decide +kernel
theorem dX5_turn_74 : decode cX5_turn 74 = .ok (.if_icmp .le 8, 3) := by decide +kernel
theorem dX5_turn_77 : decode cX5_turn 77 = .ok (.bipush 99, 2) := by decide +kernel
theorem dX5_turn_79 : decode cX5_turn 79 = .ok (.goto 4, 3) := by decide +kernel
theorem dX5_turn_82 : decode cX5_turn 82 = .ok (.iload_n 3, 1) := by decide +kernel
theorem dX5_turn_83 : decode cX5_turn 83 = .ok (.iastore, 1) := by decide +kernel
theorem dX5_turn_84 : decode cX5_turn 84 = .ok (.aload_n 0, 1) := by decide +kernel
theorem dX5_turn_85 : decode cX5_turn 85 = .ok (.getfield 7, 3) := by decide +kernel
theorem dX5_turn_88 : decode cX5_turn 88 = .ok (.iload_n 1, 1) := by decide +kernel
theorem dX5_turn_89 : decode cX5_turn 89 = .ok (.bipush 7, 2) := by decide +kernel
theorem dX5_turn_91 : decode cX5_turn 91 = .ok (.invokestatic 40, 3) := by decide +kernel
theorem dX5_turn_94 : decode cX5_turn 94 = .ok (.dup2, 1) := by decide +kernel
theorem dX5_turn_95 : decode cX5_turn 95 = .ok (.iaload, 1) := by decide +kernel
theorem dX5_turn_96 : decode cX5_turn 96 = .ok (.iconst 1, 1) := by decide +kernel
theorem dX5_turn_97 : decode cX5_turn 97 = .ok (.iadd, 1) := by decide +kernel
theorem dX5_turn_98 : decode cX5_turn 98 = .ok (.iastore, 1) := by decide +kernel
theorem dX5_turn_99 : decode cX5_turn 99 = .ok (.aload_n 0, 1) := by decide +kernel
theorem dX5_turn_100 : decode cX5_turn 100 = .ok (.getfield 7, 3) := by decide +kernel
theorem dX5_turn_103 : decode cX5_turn 103 = .ok (.iload_n 1, 1) := by decide +kernel
theorem dX5_turn_104 : decode cX5_turn 104 = .ok (.bipush 8, 2) := by decide +kernel
theorem dX5_turn_106 : decode cX5_turn 106 = .ok (.invokestatic 40, 3) := by decide +kernel
theorem dX5_turn_109 : decode cX5_turn 109 = .ok (.iconst 0, 1) := by decide +kernel
theorem dX5_turn_110 : decode cX5_turn 110 = .ok (.iastore, 1) := by decide +kernel
theorem dX5_turn_111 : decode cX5_turn 111 = .ok (.aload_n 0, 1) := by decide +kernel
theorem dX5_turn_112 : decode cX5_turn 112 = .ok (.getfield 7, 3) := by decide +kernel
theorem dX5_turn_115 : decode cX5_turn 115 = .ok (.iload_n 1, 1) := by decide +kernel
theorem dX5_turn_116 : decode cX5_turn 116 = .ok (.bipush 9, 2) := by decide +kernel
theorem dX5_turn_118 : decode cX5_turn 118 = .ok (.invokestatic 40, 3) := by decide +kernel
theorem dX5_turn_121 : decode cX5_turn 121 = .ok (.iconst 0, 1) := by decide +kernel
theorem dX5_turn_122 : decode cX5_turn 122 = .ok (.iastore, 1) := by decide +kernel
theorem dX5_turn_123 : decode cX5_turn 123 = .ok (.iinc 1 1, 3) := by decide +kernel
theorem dX5_turn_126 : decode cX5_turn 126 = .ok (.goto (-124), 3) := by decide +kernel
theorem dX5_turn_129 : decode cX5_turn 129 = .ok (.iconst 0, 1) := by decide +kernel
theorem dX5_turn_130 : decode cX5_turn 130 = .ok (.istore_n 1, 1) := by decide +kernel
theorem dX5_turn_131 : decode cX5_turn 131 = .ok (.iload_n 1, 1) := by decide +kernel
theorem dX5_turn_132 : decode cX5_turn 132 = .ok (.bipush 120, 2) := by decide +kernel
theorem dX5_turn_134 : decode cX5_turn 134 = .ok (.if_icmp .ge 39, 3) := by decide +kernel
theorem dX5_turn_137 : decode cX5_turn 137 = .ok (.aload_n 0, 1) := by decide +kernel
theorem dX5_turn_138 : decode cX5_turn 138 = .ok (.getfield 7, 3) := by decide +kernel
theorem dX5_turn_141 : decode cX5_turn 141 = .ok (.sipush 240, 3) := by decide +kernel
theorem dX5_turn_144 : decode cX5_turn 144 = .ok (.iload_n 1, 1) := by decide +kernel
theorem dX5_turn_145 : decode cX5_turn 145 = .ok (.iadd, 1) := by decide +kernel
theorem dX5_turn_146 : decode cX5_turn 146 = .ok (.dup2, 1) := by decide +kernel
theorem dX5_turn_147 : decode cX5_turn 147 = .ok (.iaload, 1) := by decide +kernel
theorem dX5_turn_148 : decode cX5_turn 148 = .ok (.aload_n 0, 1) := by decide +kernel
theorem dX5_turn_149 : decode cX5_turn 149 = .ok (.getfield 7, 3) := by decide +kernel
theorem dX5_turn_152 : decode cX5_turn 152 = .ok (.bipush 120, 2) := by decide +kernel
theorem dX5_turn_154 : decode cX5_turn 154 = .ok (.iload_n 1, 1) := by decide +kernel
theorem dX5_turn_155 : decode cX5_turn 155 = .ok (.iadd, 1) := by decide +kernel
theorem dX5_turn_156 : decode cX5_turn 156 = .ok (.iaload, 1) := by decide +kernel
theorem dX5_turn_157 : decode cX5_turn 157 = .ok (.ifCond .le 7, 3) := by decide +kernel
theorem dX5_turn_160 : decode cX5_turn 160 = .ok (.iconst 1, 1) := by decide +kernel
theorem dX5_turn_161 : decode cX5_turn 161 = .ok (.goto 4, 3) := by decide +kernel
theorem dX5_turn_164 : decode cX5_turn 164 = .ok (.iconst 0, 1) := by decide +kernel
theorem dX5_turn_165 : decode cX5_turn 165 = .ok (.iadd, 1) := by decide +kernel
theorem dX5_turn_166 : decode cX5_turn 166 = .ok (.iastore, 1) := by decide +kernel
theorem dX5_turn_167 : decode cX5_turn 167 = .ok (.iinc 1 1, 3) := by decide +kernel
theorem dX5_turn_170 : decode cX5_turn 170 = .ok (.goto (-39), 3) := by decide +kernel
theorem dX5_turn_173 : decode cX5_turn 173 = .ok (.aload_n 0, 1) := by decide +kernel
theorem dX5_turn_174 : decode cX5_turn 174 = .ok (.invokevirtual 84, 3) := by decide +kernel
theorem dX5_turn_177 : decode cX5_turn 177 = .ok (.aload_n 0, 1) := by decide +kernel
theorem dX5_turn_178 : decode cX5_turn 178 = .ok (.getfield 7, 3) := by decide +kernel
theorem dX5_turn_181 : decode cX5_turn 181 = .ok (.sipush 536, 3) := by decide +kernel
theorem dX5_turn_184 : decode cX5_turn 184 = .ok (.dup2, 1) := by decide +kernel
theorem dX5_turn_185 : decode cX5_turn 185 = .ok (.iaload, 1) := by decide +kernel
theorem dX5_turn_186 : decode cX5_turn 186 = .ok (.iconst 1, 1) := by decide +kernel
theorem dX5_turn_187 : decode cX5_turn 187 = .ok (.iadd, 1) := by decide +kernel
theorem dX5_turn_188 : decode cX5_turn 188 = .ok (.iastore, 1) := by decide +kernel
theorem dX5_turn_189 : decode cX5_turn 189 = .ok (.aload_n 0, 1) := by decide +kernel
theorem dX5_turn_190 : decode cX5_turn 190 = .ok (.getfield 7, 3) := by decide +kernel
theorem dX5_turn_193 : decode cX5_turn 193 = .ok (.sipush 536, 3) := by decide +kernel
theorem dX5_turn_196 : decode cX5_turn 196 = .ok (.iaload, 1) := by decide +kernel
theorem dX5_turn_197 : decode cX5_turn 197 = .ok (.aload_n 0, 1) := by decide +kernel
theorem dX5_turn_198 : decode cX5_turn 198 = .ok (.getfield 7, 3) := by decide +kernel
theorem dX5_turn_201 : decode cX5_turn 201 = .ok (.sipush 534, 3) := by decide +kernel
theorem dX5_turn_204 : decode cX5_turn 204 = .ok (.iaload, 1) := by decide +kernel
theorem dX5_turn_205 : decode cX5_turn 205 = .ok (.irem, 1) := by decide +kernel
theorem dX5_turn_206 : decode cX5_turn 206 = .ok (.ifCond .ne 7, 3) := by decide +kernel
theorem dX5_turn_209 : decode cX5_turn 209 = .ok (.iconst 1, 1) := by decide +kernel
theorem dX5_turn_210 : decode cX5_turn 210 = .ok (.goto 4, 3) := by decide +kernel
theorem dX5_turn_213 : decode cX5_turn 213 = .ok (.iconst 0, 1) := by decide +kernel
theorem dX5_turn_214 : decode cX5_turn 214 = .ok (.istore_n 1, 1) := by decide +kernel
theorem dX5_turn_215 : decode cX5_turn 215 = .ok (.iconst 0, 1) := by decide +kernel
theorem dX5_turn_216 : decode cX5_turn 216 = .ok (.istore_n 2, 1) := by decide +kernel
theorem dX5_turn_217 : decode cX5_turn 217 = .ok (.iload_n 2, 1) := by decide +kernel
theorem dX5_turn_218 : decode cX5_turn 218 = .ok (.bipush 120, 2) := by decide +kernel
theorem dX5_turn_220 : decode cX5_turn 220 = .ok (.if_icmp .ge 54, 3) := by decide +kernel
theorem dX5_turn_223 : decode cX5_turn 223 = .ok (.aload_n 0, 1) := by decide +kernel
theorem dX5_turn_224 : decode cX5_turn 224 = .ok (.getfield 7, 3) := by decide +kernel
theorem dX5_turn_227 : decode cX5_turn 227 = .ok (.iconst 0, 1) := by decide +kernel
theorem dX5_turn_228 : decode cX5_turn 228 = .ok (.iload_n 2, 1) := by decide +kernel
theorem dX5_turn_229 : decode cX5_turn 229 = .ok (.iadd, 1) := by decide +kernel
theorem dX5_turn_230 : decode cX5_turn 230 = .ok (.dup2, 1) := by decide +kernel
theorem dX5_turn_231 : decode cX5_turn 231 = .ok (.iaload, 1) := by decide +kernel
theorem dX5_turn_232 : decode cX5_turn 232 = .ok (.iload_n 1, 1) := by decide +kernel
theorem dX5_turn_233 : decode cX5_turn 233 = .ok (.ifCond .eq 32, 3) := by decide +kernel
theorem dX5_turn_236 : decode cX5_turn 236 = .ok (.aload_n 0, 1) := by decide +kernel
theorem dX5_turn_237 : decode cX5_turn 237 = .ok (.getfield 7, 3) := by decide +kernel
theorem dX5_turn_240 : decode cX5_turn 240 = .ok (.bipush 120, 2) := by decide +kernel
theorem dX5_turn_242 : decode cX5_turn 242 = .ok (.iload_n 2, 1) := by decide +kernel
theorem dX5_turn_243 : decode cX5_turn 243 = .ok (.iadd, 1) := by decide +kernel
theorem dX5_turn_244 : decode cX5_turn 244 = .ok (.iaload, 1) := by decide +kernel
theorem dX5_turn_245 : decode cX5_turn 245 = .ok (.ifCond .ne 20, 3) := by decide +kernel
theorem dX5_turn_248 : decode cX5_turn 248 = .ok (.aload_n 0, 1) := by decide +kernel
theorem dX5_turn_249 : decode cX5_turn 249 = .ok (.getfield 7, 3) := by decide +kernel
theorem dX5_turn_252 : decode cX5_turn 252 = .ok (.iconst 0, 1) := by decide +kernel
theorem dX5_turn_253 : decode cX5_turn 253 = .ok (.iload_n 2, 1) := by decide +kernel
theorem dX5_turn_254 : decode cX5_turn 254 = .ok (.iadd, 1) := by decide +kernel
theorem dX5_turn_255 : decode cX5_turn 255 = .ok (.iaload, 1) := by decide +kernel
theorem dX5_turn_256 : decode cX5_turn 256 = .ok (.bipush 9, 2) := by decide +kernel
theorem dX5_turn_258 : decode cX5_turn 258 = .ok (.if_icmp .ge 7, 3) := by decide +kernel
theorem dX5_turn_261 : decode cX5_turn 261 = .ok (.iconst 1, 1) := by decide +kernel
theorem dX5_turn_262 : decode cX5_turn 262 = .ok (.goto 4, 3) := by decide +kernel
theorem dX5_turn_265 : decode cX5_turn 265 = .ok (.iconst 0, 1) := by decide +kernel
theorem dX5_turn_266 : decode cX5_turn 266 = .ok (.iadd, 1) := by decide +kernel
theorem dX5_turn_267 : decode cX5_turn 267 = .ok (.iastore, 1) := by decide +kernel
theorem dX5_turn_268 : decode cX5_turn 268 = .ok (.iinc 2 1, 3) := by decide +kernel
theorem dX5_turn_271 : decode cX5_turn 271 = .ok (.goto (-54), 3) := by decide +kernel
theorem dX5_turn_274 : decode cX5_turn 274 = .ok (.return_, 1) := by decide +kernel
theorem dX5_passes_0 : decode cX5_passes 0 = .ok (.aload_n 0, 1) := by decide +kernel
theorem dX5_passes_1 : decode cX5_passes 1 = .ok (.getfield 7, 3) := by decide +kernel
theorem dX5_passes_4 : decode cX5_passes 4 = .ok (.sipush 537, 3) := by decide +kernel
theorem dX5_passes_7 : decode cX5_passes 7 = .ok (.iaload, 1) := by decide +kernel
theorem dX5_passes_8 : decode cX5_passes 8 = .ok (.istore_n 2, 1) := by decide +kernel
theorem dX5_passes_9 : decode cX5_passes 9 = .ok (.iconst 0, 1) := by decide +kernel
theorem dX5_passes_10 : decode cX5_passes 10 = .ok (.istore_n 3, 1) := by decide +kernel
theorem dX5_passes_11 : decode cX5_passes 11 = .ok (.iload_n 3, 1) := by decide +kernel
theorem dX5_passes_12 : decode cX5_passes 12 = .ok (.iload_n 1, 1) := by decide +kernel
theorem dX5_passes_13 : decode cX5_passes 13 = .ok (.if_icmp .ge 13, 3) := by decide +kernel
theorem dX5_passes_16 : decode cX5_passes 16 = .ok (.aload_n 0, 1) := by decide +kernel
theorem dX5_passes_17 : decode cX5_passes 17 = .ok (.invokevirtual 103, 3) := by decide +kernel
theorem dX5_passes_20 : decode cX5_passes 20 = .ok (.iinc 3 1, 3) := by decide +kernel
theorem dX5_passes_23 : decode cX5_passes 23 = .ok (.goto (-12), 3) := by decide +kernel
theorem dX5_passes_26 : decode cX5_passes 26 = .ok (.aload_n 0, 1) := by decide +kernel
theorem dX5_passes_27 : decode cX5_passes 27 = .ok (.getfield 7, 3) := by decide +kernel
theorem dX5_passes_30 : decode cX5_passes 30 = .ok (.sipush 537, 3) := by decide +kernel
theorem dX5_passes_33 : decode cX5_passes 33 = .ok (.iaload, 1) := by decide +kernel
theorem dX5_passes_34 : decode cX5_passes 34 = .ok (.iload_n 2, 1) := by decide +kernel
theorem dX5_passes_35 : decode cX5_passes 35 = .ok (.isub, 1) := by decide +kernel
theorem dX5_passes_36 : decode cX5_passes 36 = .ok (.ireturn, 1) := by decide +kernel
theorem dX5_barPass_0 : decode cX5_barPass 0 = .ok (.iload_n 1, 1) := by decide +kernel
theorem dX5_barPass_1 : decode cX5_barPass 1 = .ok (.iconst 1, 1) := by decide +kernel
theorem dX5_barPass_2 : decode cX5_barPass 2 = .ok (.bipush 99, 2) := by decide +kernel
theorem dX5_barPass_4 : decode cX5_barPass 4 = .ok (.invokestatic 32, 3) := by decide +kernel
theorem dX5_barPass_7 : decode cX5_barPass 7 = .ok (.ifCond .ne 8, 3) := by decide +kernel
theorem dX5_barPass_10 : decode cX5_barPass 10 = .ok (.bipush (-2), 2) := by decide +kernel
theorem dX5_barPass_12 : decode cX5_barPass 12 = .ok (.goto 24, 3) := by decide +kernel
theorem dX5_barPass_15 : decode cX5_barPass 15 = .ok (.aload_n 0, 1) := by decide +kernel
theorem dX5_barPass_16 : decode cX5_barPass 16 = .ok (.getfield 7, 3) := by decide +kernel
theorem dX5_barPass_19 : decode cX5_barPass 19 = .ok (.sipush 536, 3) := by decide +kernel
theorem dX5_barPass_22 : decode cX5_barPass 22 = .ok (.iaload, 1) := by decide +kernel
theorem dX5_barPass_23 : decode cX5_barPass 23 = .ok (.iload_n 1, 1) := by decide +kernel
theorem dX5_barPass_24 : decode cX5_barPass 24 = .ok (.iadd, 1) := by decide +kernel
theorem dX5_barPass_25 : decode cX5_barPass 25 = .ok (.ldc 106, 2) := by decide +kernel
theorem dX5_barPass_27 : decode cX5_barPass 27 = .ok (.if_icmp .le 8, 3) := by decide +kernel
theorem dX5_barPass_30 : decode cX5_barPass 30 = .ok (.bipush (-3), 2) := by decide +kernel
theorem dX5_barPass_32 : decode cX5_barPass 32 = .ok (.goto 4, 3) := by decide +kernel
theorem dX5_barPass_35 : decode cX5_barPass 35 = .ok (.iconst 0, 1) := by decide +kernel
theorem dX5_barPass_36 : decode cX5_barPass 36 = .ok (.ireturn, 1) := by decide +kernel
theorem dX5_pass_0 : decode cX5_pass 0 = .ok (.aload_n 0, 1) := by decide +kernel
theorem dX5_pass_1 : decode cX5_pass 1 = .ok (.iload_n 1, 1) := by decide +kernel
theorem dX5_pass_2 : decode cX5_pass 2 = .ok (.invokevirtual 107, 3) := by decide +kernel
theorem dX5_pass_5 : decode cX5_pass 5 = .ok (.istore_n 2, 1) := by decide +kernel
theorem dX5_pass_6 : decode cX5_pass 6 = .ok (.iload_n 2, 1) := by decide +kernel
theorem dX5_pass_7 : decode cX5_pass 7 = .ok (.ifCond .ge 5, 3) := by decide +kernel
theorem dX5_pass_10 : decode cX5_pass 10 = .ok (.iload_n 2, 1) := by decide +kernel
theorem dX5_pass_11 : decode cX5_pass 11 = .ok (.ireturn, 1) := by decide +kernel
theorem dX5_pass_12 : decode cX5_pass 12 = .ok (.aload_n 0, 1) := by decide +kernel
theorem dX5_pass_13 : decode cX5_pass 13 = .ok (.invokevirtual 57, 3) := by decide +kernel
theorem dX5_pass_16 : decode cX5_pass 16 = .ok (.aload_n 0, 1) := by decide +kernel
theorem dX5_pass_17 : decode cX5_pass 17 = .ok (.iload_n 1, 1) := by decide +kernel
theorem dX5_pass_18 : decode cX5_pass 18 = .ok (.invokevirtual 110, 3) := by decide +kernel
theorem dX5_pass_21 : decode cX5_pass 21 = .ok (.ireturn, 1) := by decide +kernel
theorem dX5_type_0 : decode cX5_type 0 = .ok (.aload_n 0, 1) := by decide +kernel
theorem dX5_type_1 : decode cX5_type 1 = .ok (.getfield 113, 3) := by decide +kernel
theorem dX5_type_4 : decode cX5_type 4 = .ok (.bipush 60, 2) := by decide +kernel
theorem dX5_type_6 : decode cX5_type 6 = .ok (.if_icmp .ne 6, 3) := by decide +kernel
theorem dX5_type_9 : decode cX5_type 9 = .ok (.bipush (-3), 2) := by decide +kernel
theorem dX5_type_11 : decode cX5_type 11 = .ok (.ireturn, 1) := by decide +kernel
theorem dX5_type_12 : decode cX5_type 12 = .ok (.aload_n 0, 1) := by decide +kernel
theorem dX5_type_13 : decode cX5_type 13 = .ok (.getfield 22, 3) := by decide +kernel
theorem dX5_type_16 : decode cX5_type 16 = .ok (.aload_n 0, 1) := by decide +kernel
theorem dX5_type_17 : decode cX5_type 17 = .ok (.getfield 113, 3) := by decide +kernel
theorem dX5_type_20 : decode cX5_type 20 = .ok (.iload_n 1, 1) := by decide +kernel
theorem dX5_type_21 : decode cX5_type 21 = .ok (.castore, 1) := by decide +kernel
theorem dX5_type_22 : decode cX5_type 22 = .ok (.aload_n 0, 1) := by decide +kernel
theorem dX5_type_23 : decode cX5_type 23 = .ok (.dup, 1) := by decide +kernel
theorem dX5_type_24 : decode cX5_type 24 = .ok (.getfield 113, 3) := by decide +kernel
theorem dX5_type_27 : decode cX5_type 27 = .ok (.iconst 1, 1) := by decide +kernel
theorem dX5_type_28 : decode cX5_type 28 = .ok (.iadd, 1) := by decide +kernel
theorem dX5_type_29 : decode cX5_type 29 = .ok (.putfield 113, 3) := by decide +kernel
theorem dX5_type_32 : decode cX5_type 32 = .ok (.aload_n 0, 1) := by decide +kernel
theorem dX5_type_33 : decode cX5_type 33 = .ok (.getfield 113, 3) := by decide +kernel
theorem dX5_type_36 : decode cX5_type 36 = .ok (.ireturn, 1) := by decide +kernel
theorem dX5_clearText_0 : decode cX5_clearText 0 = .ok (.aload_n 0, 1) := by decide +kernel
theorem dX5_clearText_1 : decode cX5_clearText 1 = .ok (.getfield 113, 3) := by decide +kernel
theorem dX5_clearText_4 : decode cX5_clearText 4 = .ok (.istore_n 1, 1) := by decide +kernel
theorem dX5_clearText_5 : decode cX5_clearText 5 = .ok (.aload_n 0, 1) := by decide +kernel
theorem dX5_clearText_6 : decode cX5_clearText 6 = .ok (.iconst 0, 1) := by decide +kernel
theorem dX5_clearText_7 : decode cX5_clearText 7 = .ok (.putfield 113, 3) := by decide +kernel
theorem dX5_clearText_10 : decode cX5_clearText 10 = .ok (.iload_n 1, 1) := by decide +kernel
theorem dX5_clearText_11 : decode cX5_clearText 11 = .ok (.ireturn, 1) := by decide +kernel
theorem dX5_next_0 : decode cX5_next 0 = .ok (.aload_n 0, 1) := by decide +kernel
theorem dX5_next_1 : decode cX5_next 1 = .ok (.getfield 116, 3) := by decide +kernel
theorem dX5_next_4 : decode cX5_next 4 = .ok (.aload_n 0, 1) := by decide +kernel
theorem dX5_next_5 : decode cX5_next 5 = .ok (.getfield 113, 3) := by decide +kernel
theorem dX5_next_8 : decode cX5_next 8 = .ok (.if_icmp .ge 15, 3) := by decide +kernel
theorem dX5_next_11 : decode cX5_next 11 = .ok (.aload_n 0, 1) := by decide +kernel
theorem dX5_next_12 : decode cX5_next 12 = .ok (.getfield 22, 3) := by decide +kernel
theorem dX5_next_15 : decode cX5_next 15 = .ok (.aload_n 0, 1) := by decide +kernel
theorem dX5_next_16 : decode cX5_next 16 = .ok (.getfield 116, 3) := by decide +kernel
theorem dX5_next_19 : decode cX5_next 19 = .ok (.caload, 1) := by decide +kernel
theorem dX5_next_20 : decode cX5_next 20 = .ok (.goto 4, 3) := by decide +kernel
theorem dX5_next_23 : decode cX5_next 23 = .ok (.iconst (-1), 1) := by decide +kernel
theorem dX5_next_24 : decode cX5_next 24 = .ok (.ireturn, 1) := by decide +kernel
theorem dX5_sign_0 : decode cX5_sign 0 = .ok (.aload_n 0, 1) := by decide +kernel
theorem dX5_sign_1 : decode cX5_sign 1 = .ok (.aload_n 0, 1) := by decide +kernel
theorem dX5_sign_2 : decode cX5_sign 2 = .ok (.getfield 119, 3) := by decide +kernel
theorem dX5_sign_5 : decode cX5_sign 5 = .ok (.ifCond .ne 11, 3) := by decide +kernel
theorem dX5_sign_8 : decode cX5_sign 8 = .ok (.aload_n 0, 1) := by decide +kernel
theorem dX5_sign_9 : decode cX5_sign 9 = .ok (.invokevirtual 123, 3) := by decide +kernel
theorem dX5_sign_12 : decode cX5_sign 12 = .ok (.iload_n 1, 1) := by decide +kernel
theorem dX5_sign_13 : decode cX5_sign 13 = .ok (.if_icmp .eq 7, 3) := by decide +kernel
theorem dX5_sign_16 : decode cX5_sign 16 = .ok (.iconst 1, 1) := by decide +kernel
theorem dX5_sign_17 : decode cX5_sign 17 = .ok (.goto 4, 3) := by decide +kernel
theorem dX5_sign_20 : decode cX5_sign 20 = .ok (.iconst 0, 1) := by decide +kernel
theorem dX5_sign_21 : decode cX5_sign 21 = .ok (.putfield 119, 3) := by decide +kernel
theorem dX5_sign_24 : decode cX5_sign 24 = .ok (.aload_n 0, 1) := by decide +kernel
theorem dX5_sign_25 : decode cX5_sign 25 = .ok (.dup, 1) := by decide +kernel
theorem dX5_sign_26 : decode cX5_sign 26 = .ok (.getfield 116, 3) := by decide +kernel
theorem dX5_sign_29 : decode cX5_sign 29 = .ok (.aload_n 0, 1) := by decide +kernel
theorem dX5_sign_30 : decode cX5_sign 30 = .ok (.getfield 119, 3) := by decide +kernel
theorem dX5_sign_33 : decode cX5_sign 33 = .ok (.ifCond .eq 7, 3) := by decide +kernel
theorem dX5_sign_36 : decode cX5_sign 36 = .ok (.iconst 0, 1) := by decide +kernel
theorem dX5_sign_37 : decode cX5_sign 37 = .ok (.goto 4, 3) := by decide +kernel
theorem dX5_sign_40 : decode cX5_sign 40 = .ok (.iconst 1, 1) := by decide +kernel
theorem dX5_sign_41 : decode cX5_sign 41 = .ok (.iadd, 1) := by decide +kernel
theorem dX5_sign_42 : decode cX5_sign 42 = .ok (.putfield 116, 3) := by decide +kernel
theorem dX5_sign_45 : decode cX5_sign 45 = .ok (.return_, 1) := by decide +kernel
theorem dX5_number_0 : decode cX5_number 0 = .ok (.aload_n 0, 1) := by decide +kernel
theorem dX5_number_1 : decode cX5_number 1 = .ok (.invokevirtual 123, 3) := by decide +kernel
theorem dX5_number_4 : decode cX5_number 4 = .ok (.bipush 48, 2) := by decide +kernel
theorem dX5_number_6 : decode cX5_number 6 = .ok (.isub, 1) := by decide +kernel
theorem dX5_number_7 : decode cX5_number 7 = .ok (.istore_n 3, 1) := by decide +kernel
theorem dX5_number_8 : decode cX5_number 8 = .ok (.aload_n 0, 1) := by decide +kernel
theorem dX5_number_9 : decode cX5_number 9 = .ok (.aload_n 0, 1) := by decide +kernel
theorem dX5_number_10 : decode cX5_number 10 = .ok (.getfield 119, 3) := by decide +kernel
theorem dX5_number_13 : decode cX5_number 13 = .ok (.ifCond .ne 23, 3) := by decide +kernel
theorem dX5_number_16 : decode cX5_number 16 = .ok (.iload_n 3, 1) := by decide +kernel
theorem dX5_number_17 : decode cX5_number 17 = .ok (.iload_n 1, 1) := by decide +kernel
theorem dX5_number_18 : decode cX5_number 18 = .ok (.iload_n 2, 1) := by decide +kernel
theorem dX5_number_19 : decode cX5_number 19 = .ok (.bipush 9, 2) := by decide +kernel
theorem dX5_number_21 : decode cX5_number 21 = .ok (.if_icmp .ge 7, 3) := by decide +kernel
theorem dX5_number_24 : decode cX5_number 24 = .ok (.iload_n 2, 1) := by decide +kernel
theorem dX5_number_25 : decode cX5_number 25 = .ok (.goto 5, 3) := by decide +kernel
theorem dX5_number_28 : decode cX5_number 28 = .ok (.bipush 9, 2) := by decide +kernel
theorem dX5_number_30 : decode cX5_number 30 = .ok (.invokestatic 32, 3) := by decide +kernel
theorem dX5_number_33 : decode cX5_number 33 = .ok (.ifCond .ne 7, 3) := by decide +kernel
theorem dX5_number_36 : decode cX5_number 36 = .ok (.iconst 1, 1) := by decide +kernel
theorem dX5_number_37 : decode cX5_number 37 = .ok (.goto 4, 3) := by decide +kernel
theorem dX5_number_40 : decode cX5_number 40 = .ok (.iconst 0, 1) := by decide +kernel
theorem dX5_number_41 : decode cX5_number 41 = .ok (.putfield 119, 3) := by decide +kernel
theorem dX5_number_44 : decode cX5_number 44 = .ok (.aload_n 0, 1) := by decide +kernel
theorem dX5_number_45 : decode cX5_number 45 = .ok (.getfield 119, 3) := by decide +kernel
theorem dX5_number_48 : decode cX5_number 48 = .ok (.ifCond .eq 5, 3) := by decide +kernel
theorem dX5_number_51 : decode cX5_number 51 = .ok (.iconst 0, 1) := by decide +kernel
theorem dX5_number_52 : decode cX5_number 52 = .ok (.ireturn, 1) := by decide +kernel
theorem dX5_number_53 : decode cX5_number 53 = .ok (.aload_n 0, 1) := by decide +kernel
theorem dX5_number_54 : decode cX5_number 54 = .ok (.dup, 1) := by decide +kernel
theorem dX5_number_55 : decode cX5_number 55 = .ok (.getfield 116, 3) := by decide +kernel
theorem dX5_number_58 : decode cX5_number 58 = .ok (.iconst 1, 1) := by decide +kernel
theorem dX5_number_59 : decode cX5_number 59 = .ok (.iadd, 1) := by decide +kernel
theorem dX5_number_60 : decode cX5_number 60 = .ok (.putfield 116, 3) := by decide +kernel
theorem dX5_number_63 : decode cX5_number 63 = .ok (.bipush 10, 2) := by decide +kernel
theorem dX5_number_65 : decode cX5_number 65 = .ok (.iload_n 3, 1) := by decide +kernel
theorem dX5_number_66 : decode cX5_number 66 = .ok (.imul, 1) := by decide +kernel
theorem dX5_number_67 : decode cX5_number 67 = .ok (.aload_n 0, 1) := by decide +kernel
theorem dX5_number_68 : decode cX5_number 68 = .ok (.invokevirtual 123, 3) := by decide +kernel
theorem dX5_number_71 : decode cX5_number 71 = .ok (.iadd, 1) := by decide +kernel
theorem dX5_number_72 : decode cX5_number 72 = .ok (.bipush 48, 2) := by decide +kernel
theorem dX5_number_74 : decode cX5_number 74 = .ok (.isub, 1) := by decide +kernel
theorem dX5_number_75 : decode cX5_number 75 = .ok (.istore 4, 2) := by decide +kernel
theorem dX5_number_77 : decode cX5_number 77 = .ok (.iload_n 3, 1) := by decide +kernel
theorem dX5_number_78 : decode cX5_number 78 = .ok (.ifCond .le 36, 3) := by decide +kernel
theorem dX5_number_81 : decode cX5_number 81 = .ok (.aload_n 0, 1) := by decide +kernel
theorem dX5_number_82 : decode cX5_number 82 = .ok (.invokevirtual 123, 3) := by decide +kernel
theorem dX5_number_85 : decode cX5_number 85 = .ok (.bipush 48, 2) := by decide +kernel
theorem dX5_number_87 : decode cX5_number 87 = .ok (.bipush 57, 2) := by decide +kernel
theorem dX5_number_89 : decode cX5_number 89 = .ok (.invokestatic 32, 3) := by decide +kernel
theorem dX5_number_92 : decode cX5_number 92 = .ok (.ifCond .eq 22, 3) := by decide +kernel
theorem dX5_number_95 : decode cX5_number 95 = .ok (.iload 4, 2) := by decide +kernel
theorem dX5_number_97 : decode cX5_number 97 = .ok (.iload_n 2, 1) := by decide +kernel
theorem dX5_number_98 : decode cX5_number 98 = .ok (.if_icmp .gt 16, 3) := by decide +kernel
theorem dX5_number_101 : decode cX5_number 101 = .ok (.aload_n 0, 1) := by decide +kernel
theorem dX5_number_102 : decode cX5_number 102 = .ok (.dup, 1) := by decide +kernel
theorem dX5_number_103 : decode cX5_number 103 = .ok (.getfield 116, 3) := by decide +kernel
theorem dX5_number_106 : decode cX5_number 106 = .ok (.iconst 1, 1) := by decide +kernel
theorem dX5_number_107 : decode cX5_number 107 = .ok (.iadd, 1) := by decide +kernel
theorem dX5_number_108 : decode cX5_number 108 = .ok (.putfield 116, 3) := by decide +kernel
theorem dX5_number_111 : decode cX5_number 111 = .ok (.iload 4, 2) := by decide +kernel
theorem dX5_number_113 : decode cX5_number 113 = .ok (.ireturn, 1) := by decide +kernel
theorem dX5_number_114 : decode cX5_number 114 = .ok (.iload_n 3, 1) := by decide +kernel
theorem dX5_number_115 : decode cX5_number 115 = .ok (.ireturn, 1) := by decide +kernel
theorem dX5_thing_0 : decode cX5_thing 0 = .ok (.aload_n 0, 1) := by decide +kernel
theorem dX5_thing_1 : decode cX5_thing 1 = .ok (.aload_n 0, 1) := by decide +kernel
theorem dX5_thing_2 : decode cX5_thing 2 = .ok (.getfield 119, 3) := by decide +kernel
theorem dX5_thing_5 : decode cX5_thing 5 = .ok (.ifCond .eq 7, 3) := by decide +kernel
theorem dX5_thing_8 : decode cX5_thing 8 = .ok (.iconst (-1), 1) := by decide +kernel
theorem dX5_thing_9 : decode cX5_thing 9 = .ok (.goto 7, 3) := by decide +kernel
theorem dX5_thing_12 : decode cX5_thing 12 = .ok (.aload_n 0, 1) := by decide +kernel
theorem dX5_thing_13 : decode cX5_thing 13 = .ok (.invokevirtual 123, 3) := by decide +kernel
theorem dX5_thing_16 : decode cX5_thing 16 = .ok (.putfield 127, 3) := by decide +kernel
theorem dX5_thing_19 : decode cX5_thing 19 = .ok (.aload_n 0, 1) := by decide +kernel
theorem dX5_thing_20 : decode cX5_thing 20 = .ok (.aload_n 0, 1) := by decide +kernel
theorem dX5_thing_21 : decode cX5_thing 21 = .ok (.getfield 119, 3) := by decide +kernel
theorem dX5_thing_24 : decode cX5_thing 24 = .ok (.ifCond .ne 30, 3) := by decide +kernel
theorem dX5_thing_27 : decode cX5_thing 27 = .ok (.aload_n 0, 1) := by decide +kernel
theorem dX5_thing_28 : decode cX5_thing 28 = .ok (.getfield 127, 3) := by decide +kernel
theorem dX5_thing_31 : decode cX5_thing 31 = .ok (.bipush 115, 2) := by decide +kernel
theorem dX5_thing_33 : decode cX5_thing 33 = .ok (.if_icmp .eq 25, 3) := by decide +kernel
theorem dX5_thing_36 : decode cX5_thing 36 = .ok (.aload_n 0, 1) := by decide +kernel
theorem dX5_thing_37 : decode cX5_thing 37 = .ok (.getfield 127, 3) := by decide +kernel
theorem dX5_thing_40 : decode cX5_thing 40 = .ok (.bipush 102, 2) := by decide +kernel
theorem dX5_thing_42 : decode cX5_thing 42 = .ok (.if_icmp .eq 16, 3) := by decide +kernel
theorem dX5_thing_45 : decode cX5_thing 45 = .ok (.aload_n 0, 1) := by decide +kernel
theorem dX5_thing_46 : decode cX5_thing 46 = .ok (.getfield 127, 3) := by decide +kernel
theorem dX5_thing_49 : decode cX5_thing 49 = .ok (.bipush 46, 2) := by decide +kernel
theorem dX5_thing_51 : decode cX5_thing 51 = .ok (.if_icmp .eq 7, 3) := by decide +kernel
theorem dX5_thing_54 : decode cX5_thing 54 = .ok (.iconst 1, 1) := by decide +kernel
theorem dX5_thing_55 : decode cX5_thing 55 = .ok (.goto 4, 3) := by decide +kernel
theorem dX5_thing_58 : decode cX5_thing 58 = .ok (.iconst 0, 1) := by decide +kernel
theorem dX5_thing_59 : decode cX5_thing 59 = .ok (.putfield 119, 3) := by decide +kernel
theorem dX5_thing_62 : decode cX5_thing 62 = .ok (.aload_n 0, 1) := by decide +kernel
theorem dX5_thing_63 : decode cX5_thing 63 = .ok (.dup, 1) := by decide +kernel
theorem dX5_thing_64 : decode cX5_thing 64 = .ok (.getfield 116, 3) := by decide +kernel
theorem dX5_thing_67 : decode cX5_thing 67 = .ok (.aload_n 0, 1) := by decide +kernel
theorem dX5_thing_68 : decode cX5_thing 68 = .ok (.getfield 119, 3) := by decide +kernel
theorem dX5_thing_71 : decode cX5_thing 71 = .ok (.ifCond .eq 7, 3) := by decide +kernel
theorem dX5_thing_74 : decode cX5_thing 74 = .ok (.iconst 0, 1) := by decide +kernel
theorem dX5_thing_75 : decode cX5_thing 75 = .ok (.goto 4, 3) := by decide +kernel
theorem dX5_thing_78 : decode cX5_thing 78 = .ok (.iconst 1, 1) := by decide +kernel
theorem dX5_thing_79 : decode cX5_thing 79 = .ok (.iadd, 1) := by decide +kernel
theorem dX5_thing_80 : decode cX5_thing 80 = .ok (.putfield 116, 3) := by decide +kernel
theorem dX5_thing_83 : decode cX5_thing 83 = .ok (.aload_n 0, 1) := by decide +kernel
theorem dX5_thing_84 : decode cX5_thing 84 = .ok (.getfield 127, 3) := by decide +kernel
theorem dX5_thing_87 : decode cX5_thing 87 = .ok (.bipush 46, 2) := by decide +kernel
theorem dX5_thing_89 : decode cX5_thing 89 = .ok (.if_icmp .ne 15, 3) := by decide +kernel
theorem dX5_thing_92 : decode cX5_thing 92 = .ok (.aload_n 0, 1) := by decide +kernel
theorem dX5_thing_93 : decode cX5_thing 93 = .ok (.aload_n 0, 1) := by decide +kernel
theorem dX5_thing_94 : decode cX5_thing 94 = .ok (.iconst 1, 1) := by decide +kernel
theorem dX5_thing_95 : decode cX5_thing 95 = .ok (.bipush 99, 2) := by decide +kernel
theorem dX5_thing_97 : decode cX5_thing 97 = .ok (.invokevirtual 130, 3) := by decide +kernel
theorem dX5_thing_100 : decode cX5_thing 100 = .ok (.putfield 133, 3) := by decide +kernel
theorem dX5_thing_103 : decode cX5_thing 103 = .ok (.return_, 1) := by decide +kernel
theorem dX5_thing_104 : decode cX5_thing 104 = .ok (.aload_n 0, 1) := by decide +kernel
theorem dX5_thing_105 : decode cX5_thing 105 = .ok (.aload_n 0, 1) := by decide +kernel
theorem dX5_thing_106 : decode cX5_thing 106 = .ok (.iconst 0, 1) := by decide +kernel
theorem dX5_thing_107 : decode cX5_thing 107 = .ok (.iconst 5, 1) := by decide +kernel
theorem dX5_thing_108 : decode cX5_thing 108 = .ok (.invokevirtual 130, 3) := by decide +kernel
theorem dX5_thing_111 : decode cX5_thing 111 = .ok (.putfield 133, 3) := by decide +kernel
theorem dX5_thing_114 : decode cX5_thing 114 = .ok (.aload_n 0, 1) := by decide +kernel
theorem dX5_thing_115 : decode cX5_thing 115 = .ok (.aload_n 0, 1) := by decide +kernel
theorem dX5_thing_116 : decode cX5_thing 116 = .ok (.getfield 127, 3) := by decide +kernel
theorem dX5_thing_119 : decode cX5_thing 119 = .ok (.bipush 115, 2) := by decide +kernel
theorem dX5_thing_121 : decode cX5_thing 121 = .ok (.if_icmp .ne 8, 3) := by decide +kernel
theorem dX5_thing_124 : decode cX5_thing 124 = .ok (.bipush 42, 2) := by decide +kernel
theorem dX5_thing_126 : decode cX5_thing 126 = .ok (.goto 5, 3) := by decide +kernel
theorem dX5_thing_129 : decode cX5_thing 129 = .ok (.bipush 46, 2) := by decide +kernel
theorem dX5_thing_131 : decode cX5_thing 131 = .ok (.invokevirtual 136, 3) := by decide +kernel
theorem dX5_thing_134 : decode cX5_thing 134 = .ok (.aload_n 0, 1) := by decide +kernel
theorem dX5_thing_135 : decode cX5_thing 135 = .ok (.aload_n 0, 1) := by decide +kernel
theorem dX5_thing_136 : decode cX5_thing 136 = .ok (.iconst 0, 1) := by decide +kernel
theorem dX5_thing_137 : decode cX5_thing 137 = .ok (.aload_n 0, 1) := by decide +kernel
theorem dX5_thing_138 : decode cX5_thing 138 = .ok (.getfield 127, 3) := by decide +kernel
theorem dX5_thing_141 : decode cX5_thing 141 = .ok (.bipush 115, 2) := by decide +kernel
theorem dX5_thing_143 : decode cX5_thing 143 = .ok (.if_icmp .ne 8, 3) := by decide +kernel
theorem dX5_thing_146 : decode cX5_thing 146 = .ok (.bipush 99, 2) := by decide +kernel
theorem dX5_thing_148 : decode cX5_thing 148 = .ok (.goto 5, 3) := by decide +kernel
theorem dX5_thing_151 : decode cX5_thing 151 = .ok (.bipush 19, 2) := by decide +kernel
theorem dX5_thing_153 : decode cX5_thing 153 = .ok (.invokevirtual 130, 3) := by decide +kernel
theorem dX5_thing_156 : decode cX5_thing 156 = .ok (.putfield 140, 3) := by decide +kernel
theorem dX5_thing_159 : decode cX5_thing 159 = .ok (.aload_n 0, 1) := by decide +kernel
theorem dX5_thing_160 : decode cX5_thing 160 = .ok (.getfield 127, 3) := by decide +kernel
theorem dX5_thing_163 : decode cX5_thing 163 = .ok (.bipush 102, 2) := by decide +kernel
theorem dX5_thing_165 : decode cX5_thing 165 = .ok (.if_icmp .ne 20, 3) := by decide +kernel
theorem dX5_thing_168 : decode cX5_thing 168 = .ok (.aload_n 0, 1) := by decide +kernel
theorem dX5_thing_169 : decode cX5_thing 169 = .ok (.bipush 61, 2) := by decide +kernel
theorem dX5_thing_171 : decode cX5_thing 171 = .ok (.invokevirtual 136, 3) := by decide +kernel
theorem dX5_thing_174 : decode cX5_thing 174 = .ok (.aload_n 0, 1) := by decide +kernel
theorem dX5_thing_175 : decode cX5_thing 175 = .ok (.aload_n 0, 1) := by decide +kernel
theorem dX5_thing_176 : decode cX5_thing 176 = .ok (.iconst 0, 1) := by decide +kernel
theorem dX5_thing_177 : decode cX5_thing 177 = .ok (.bipush 9, 2) := by decide +kernel
theorem dX5_thing_179 : decode cX5_thing 179 = .ok (.invokevirtual 130, 3) := by decide +kernel
theorem dX5_thing_182 : decode cX5_thing 182 = .ok (.putfield 143, 3) := by decide +kernel
theorem dX5_thing_185 : decode cX5_thing 185 = .ok (.return_, 1) := by decide +kernel
theorem dX5_things_0 : decode cX5_things 0 = .ok (.aload_n 0, 1) := by decide +kernel
theorem dX5_things_1 : decode cX5_things 1 = .ok (.iconst 0, 1) := by decide +kernel
theorem dX5_things_2 : decode cX5_things 2 = .ok (.putfield 116, 3) := by decide +kernel
theorem dX5_things_5 : decode cX5_things 5 = .ok (.aload_n 0, 1) := by decide +kernel
theorem dX5_things_6 : decode cX5_things 6 = .ok (.iconst 0, 1) := by decide +kernel
theorem dX5_things_7 : decode cX5_things 7 = .ok (.putfield 119, 3) := by decide +kernel
theorem dX5_things_10 : decode cX5_things 10 = .ok (.iconst 0, 1) := by decide +kernel
theorem dX5_things_11 : decode cX5_things 11 = .ok (.istore_n 1, 1) := by decide +kernel
theorem dX5_things_12 : decode cX5_things 12 = .ok (.iconst 1, 1) := by decide +kernel
theorem dX5_things_13 : decode cX5_things 13 = .ok (.istore_n 2, 1) := by decide +kernel
theorem dX5_things_14 : decode cX5_things 14 = .ok (.iload_n 2, 1) := by decide +kernel
theorem dX5_things_15 : decode cX5_things 15 = .ok (.ifCond .eq 60, 3) := by decide +kernel
theorem dX5_things_18 : decode cX5_things 18 = .ok (.aload_n 0, 1) := by decide +kernel
theorem dX5_things_19 : decode cX5_things 19 = .ok (.invokevirtual 146, 3) := by decide +kernel
theorem dX5_things_22 : decode cX5_things 22 = .ok (.iinc 1 1, 3) := by decide +kernel
theorem dX5_things_25 : decode cX5_things 25 = .ok (.aload_n 0, 1) := by decide +kernel
theorem dX5_things_26 : decode cX5_things 26 = .ok (.getfield 119, 3) := by decide +kernel
theorem dX5_things_29 : decode cX5_things 29 = .ok (.ifCond .ne 18, 3) := by decide +kernel
theorem dX5_things_32 : decode cX5_things 32 = .ok (.aload_n 0, 1) := by decide +kernel
theorem dX5_things_33 : decode cX5_things 33 = .ok (.getfield 116, 3) := by decide +kernel
theorem dX5_things_36 : decode cX5_things 36 = .ok (.aload_n 0, 1) := by decide +kernel
theorem dX5_things_37 : decode cX5_things 37 = .ok (.getfield 113, 3) := by decide +kernel
theorem dX5_things_40 : decode cX5_things 40 = .ok (.if_icmp .ge 7, 3) := by decide +kernel
theorem dX5_things_43 : decode cX5_things 43 = .ok (.iconst 1, 1) := by decide +kernel
theorem dX5_things_44 : decode cX5_things 44 = .ok (.goto 4, 3) := by decide +kernel
theorem dX5_things_47 : decode cX5_things 47 = .ok (.iconst 0, 1) := by decide +kernel
theorem dX5_things_48 : decode cX5_things 48 = .ok (.istore_n 2, 1) := by decide +kernel
theorem dX5_things_49 : decode cX5_things 49 = .ok (.iload_n 2, 1) := by decide +kernel
theorem dX5_things_50 : decode cX5_things 50 = .ok (.ifCond .eq (-36), 3) := by decide +kernel
theorem dX5_things_53 : decode cX5_things 53 = .ok (.aload_n 0, 1) := by decide +kernel
theorem dX5_things_54 : decode cX5_things 54 = .ok (.bipush 59, 2) := by decide +kernel
theorem dX5_things_56 : decode cX5_things 56 = .ok (.invokevirtual 136, 3) := by decide +kernel
theorem dX5_things_59 : decode cX5_things 59 = .ok (.aload_n 0, 1) := by decide +kernel
theorem dX5_things_60 : decode cX5_things 60 = .ok (.getfield 119, 3) := by decide +kernel
theorem dX5_things_63 : decode cX5_things 63 = .ok (.ifCond .ne 7, 3) := by decide +kernel
theorem dX5_things_66 : decode cX5_things 66 = .ok (.iconst 1, 1) := by decide +kernel
theorem dX5_things_67 : decode cX5_things 67 = .ok (.goto 4, 3) := by decide +kernel
theorem dX5_things_70 : decode cX5_things 70 = .ok (.iconst 0, 1) := by decide +kernel
theorem dX5_things_71 : decode cX5_things 71 = .ok (.istore_n 2, 1) := by decide +kernel
theorem dX5_things_72 : decode cX5_things 72 = .ok (.goto (-58), 3) := by decide +kernel
theorem dX5_things_75 : decode cX5_things 75 = .ok (.aload_n 0, 1) := by decide +kernel
theorem dX5_things_76 : decode cX5_things 76 = .ok (.getfield 119, 3) := by decide +kernel
theorem dX5_things_79 : decode cX5_things 79 = .ok (.ifCond .eq 8, 3) := by decide +kernel
theorem dX5_things_82 : decode cX5_things 82 = .ok (.bipush (-5), 2) := by decide +kernel
theorem dX5_things_84 : decode cX5_things 84 = .ok (.goto 4, 3) := by decide +kernel
theorem dX5_things_87 : decode cX5_things 87 = .ok (.iload_n 1, 1) := by decide +kernel
theorem dX5_things_88 : decode cX5_things 88 = .ok (.ireturn, 1) := by decide +kernel
theorem dX5_doesThing_0 : decode cX5_doesThing 0 = .ok (.aload_n 0, 1) := by decide +kernel
theorem dX5_doesThing_1 : decode cX5_doesThing 1 = .ok (.getfield 127, 3) := by decide +kernel
theorem dX5_doesThing_4 : decode cX5_doesThing 4 = .ok (.bipush 115, 2) := by decide +kernel
theorem dX5_doesThing_6 : decode cX5_doesThing 6 = .ok (.if_icmp .ne 18, 3) := by decide +kernel
theorem dX5_doesThing_9 : decode cX5_doesThing 9 = .ok (.aload_n 0, 1) := by decide +kernel
theorem dX5_doesThing_10 : decode cX5_doesThing 10 = .ok (.aload_n 0, 1) := by decide +kernel
theorem dX5_doesThing_11 : decode cX5_doesThing 11 = .ok (.getfield 133, 3) := by decide +kernel
theorem dX5_doesThing_14 : decode cX5_doesThing 14 = .ok (.aload_n 0, 1) := by decide +kernel
theorem dX5_doesThing_15 : decode cX5_doesThing 15 = .ok (.getfield 140, 3) := by decide +kernel
theorem dX5_doesThing_18 : decode cX5_doesThing 18 = .ok (.invokevirtual 54, 3) := by decide +kernel
theorem dX5_doesThing_21 : decode cX5_doesThing 21 = .ok (.goto 39, 3) := by decide +kernel
theorem dX5_doesThing_24 : decode cX5_doesThing 24 = .ok (.aload_n 0, 1) := by decide +kernel
theorem dX5_doesThing_25 : decode cX5_doesThing 25 = .ok (.getfield 127, 3) := by decide +kernel
theorem dX5_doesThing_28 : decode cX5_doesThing 28 = .ok (.bipush 102, 2) := by decide +kernel
theorem dX5_doesThing_30 : decode cX5_doesThing 30 = .ok (.if_icmp .ne 22, 3) := by decide +kernel
theorem dX5_doesThing_33 : decode cX5_doesThing 33 = .ok (.aload_n 0, 1) := by decide +kernel
theorem dX5_doesThing_34 : decode cX5_doesThing 34 = .ok (.aload_n 0, 1) := by decide +kernel
theorem dX5_doesThing_35 : decode cX5_doesThing 35 = .ok (.getfield 133, 3) := by decide +kernel
theorem dX5_doesThing_38 : decode cX5_doesThing 38 = .ok (.aload_n 0, 1) := by decide +kernel
theorem dX5_doesThing_39 : decode cX5_doesThing 39 = .ok (.getfield 140, 3) := by decide +kernel
theorem dX5_doesThing_42 : decode cX5_doesThing 42 = .ok (.aload_n 0, 1) := by decide +kernel
theorem dX5_doesThing_43 : decode cX5_doesThing 43 = .ok (.getfield 143, 3) := by decide +kernel
theorem dX5_doesThing_46 : decode cX5_doesThing 46 = .ok (.invokevirtual 73, 3) := by decide +kernel
theorem dX5_doesThing_49 : decode cX5_doesThing 49 = .ok (.goto 11, 3) := by decide +kernel
theorem dX5_doesThing_52 : decode cX5_doesThing 52 = .ok (.aload_n 0, 1) := by decide +kernel
theorem dX5_doesThing_53 : decode cX5_doesThing 53 = .ok (.aload_n 0, 1) := by decide +kernel
theorem dX5_doesThing_54 : decode cX5_doesThing 54 = .ok (.getfield 133, 3) := by decide +kernel
theorem dX5_doesThing_57 : decode cX5_doesThing 57 = .ok (.invokevirtual 107, 3) := by decide +kernel
theorem dX5_doesThing_60 : decode cX5_doesThing 60 = .ok (.istore_n 1, 1) := by decide +kernel
theorem dX5_doesThing_61 : decode cX5_doesThing 61 = .ok (.iload_n 1, 1) := by decide +kernel
theorem dX5_doesThing_62 : decode cX5_doesThing 62 = .ok (.ifCond .ne 64, 3) := by decide +kernel
theorem dX5_doesThing_65 : decode cX5_doesThing 65 = .ok (.aload_n 0, 1) := by decide +kernel
theorem dX5_doesThing_66 : decode cX5_doesThing 66 = .ok (.getfield 127, 3) := by decide +kernel
theorem dX5_doesThing_69 : decode cX5_doesThing 69 = .ok (.bipush 115, 2) := by decide +kernel
theorem dX5_doesThing_71 : decode cX5_doesThing 71 = .ok (.if_icmp .ne 18, 3) := by decide +kernel
theorem dX5_doesThing_74 : decode cX5_doesThing 74 = .ok (.aload_n 0, 1) := by decide +kernel
theorem dX5_doesThing_75 : decode cX5_doesThing 75 = .ok (.aload_n 0, 1) := by decide +kernel
theorem dX5_doesThing_76 : decode cX5_doesThing 76 = .ok (.getfield 133, 3) := by decide +kernel
theorem dX5_doesThing_79 : decode cX5_doesThing 79 = .ok (.aload_n 0, 1) := by decide +kernel
theorem dX5_doesThing_80 : decode cX5_doesThing 80 = .ok (.getfield 140, 3) := by decide +kernel
theorem dX5_doesThing_83 : decode cX5_doesThing 83 = .ok (.invokevirtual 60, 3) := by decide +kernel
theorem dX5_doesThing_86 : decode cX5_doesThing 86 = .ok (.goto 39, 3) := by decide +kernel
theorem dX5_doesThing_89 : decode cX5_doesThing 89 = .ok (.aload_n 0, 1) := by decide +kernel
theorem dX5_doesThing_90 : decode cX5_doesThing 90 = .ok (.getfield 127, 3) := by decide +kernel
theorem dX5_doesThing_93 : decode cX5_doesThing 93 = .ok (.bipush 102, 2) := by decide +kernel
theorem dX5_doesThing_95 : decode cX5_doesThing 95 = .ok (.if_icmp .ne 22, 3) := by decide +kernel
theorem dX5_doesThing_98 : decode cX5_doesThing 98 = .ok (.aload_n 0, 1) := by decide +kernel
theorem dX5_doesThing_99 : decode cX5_doesThing 99 = .ok (.aload_n 0, 1) := by decide +kernel
theorem dX5_doesThing_100 : decode cX5_doesThing 100 = .ok (.getfield 133, 3) := by decide +kernel
theorem dX5_doesThing_103 : decode cX5_doesThing 103 = .ok (.aload_n 0, 1) := by decide +kernel
theorem dX5_doesThing_104 : decode cX5_doesThing 104 = .ok (.getfield 140, 3) := by decide +kernel
theorem dX5_doesThing_107 : decode cX5_doesThing 107 = .ok (.aload_n 0, 1) := by decide +kernel
theorem dX5_doesThing_108 : decode cX5_doesThing 108 = .ok (.getfield 143, 3) := by decide +kernel
theorem dX5_doesThing_111 : decode cX5_doesThing 111 = .ok (.invokevirtual 77, 3) := by decide +kernel
theorem dX5_doesThing_114 : decode cX5_doesThing 114 = .ok (.goto 11, 3) := by decide +kernel
theorem dX5_doesThing_117 : decode cX5_doesThing 117 = .ok (.aload_n 0, 1) := by decide +kernel
theorem dX5_doesThing_118 : decode cX5_doesThing 118 = .ok (.aload_n 0, 1) := by decide +kernel
theorem dX5_doesThing_119 : decode cX5_doesThing 119 = .ok (.getfield 133, 3) := by decide +kernel
theorem dX5_doesThing_122 : decode cX5_doesThing 122 = .ok (.invokevirtual 110, 3) := by decide +kernel
theorem dX5_doesThing_125 : decode cX5_doesThing 125 = .ok (.istore_n 2, 1) := by decide +kernel
theorem dX5_doesThing_126 : decode cX5_doesThing 126 = .ok (.iload_n 1, 1) := by decide +kernel
theorem dX5_doesThing_127 : decode cX5_doesThing 127 = .ok (.bipush (-5), 2) := by decide +kernel
theorem dX5_doesThing_129 : decode cX5_doesThing 129 = .ok (.if_icmp .ne 7, 3) := by decide +kernel
theorem dX5_doesThing_132 : decode cX5_doesThing 132 = .ok (.iconst 0, 1) := by decide +kernel
theorem dX5_doesThing_133 : decode cX5_doesThing 133 = .ok (.goto 4, 3) := by decide +kernel
theorem dX5_doesThing_136 : decode cX5_doesThing 136 = .ok (.iload_n 1, 1) := by decide +kernel
theorem dX5_doesThing_137 : decode cX5_doesThing 137 = .ok (.ireturn, 1) := by decide +kernel
theorem dX5_perform_0 : decode cX5_perform 0 = .ok (.aload_n 0, 1) := by decide +kernel
theorem dX5_perform_1 : decode cX5_perform 1 = .ok (.invokevirtual 149, 3) := by decide +kernel
theorem dX5_perform_4 : decode cX5_perform 4 = .ok (.istore_n 1, 1) := by decide +kernel
theorem dX5_perform_5 : decode cX5_perform 5 = .ok (.iload_n 1, 1) := by decide +kernel
theorem dX5_perform_6 : decode cX5_perform 6 = .ok (.ifCond .ge 11, 3) := by decide +kernel
theorem dX5_perform_9 : decode cX5_perform 9 = .ok (.bipush (-100), 2) := by decide +kernel
theorem dX5_perform_11 : decode cX5_perform 11 = .ok (.aload_n 0, 1) := by decide +kernel
theorem dX5_perform_12 : decode cX5_perform 12 = .ok (.getfield 116, 3) := by decide +kernel
theorem dX5_perform_15 : decode cX5_perform 15 = .ok (.isub, 1) := by decide +kernel
theorem dX5_perform_16 : decode cX5_perform 16 = .ok (.ireturn, 1) := by decide +kernel
theorem dX5_perform_17 : decode cX5_perform 17 = .ok (.aload_n 0, 1) := by decide +kernel
theorem dX5_perform_18 : decode cX5_perform 18 = .ok (.invokevirtual 152, 3) := by decide +kernel
theorem dX5_perform_21 : decode cX5_perform 21 = .ok (.aload_n 0, 1) := by decide +kernel
theorem dX5_perform_22 : decode cX5_perform 22 = .ok (.iconst 0, 1) := by decide +kernel
theorem dX5_perform_23 : decode cX5_perform 23 = .ok (.putfield 116, 3) := by decide +kernel
theorem dX5_perform_26 : decode cX5_perform 26 = .ok (.iconst 0, 1) := by decide +kernel
theorem dX5_perform_27 : decode cX5_perform 27 = .ok (.istore_n 2, 1) := by decide +kernel
theorem dX5_perform_28 : decode cX5_perform 28 = .ok (.iconst 0, 1) := by decide +kernel
theorem dX5_perform_29 : decode cX5_perform 29 = .ok (.istore_n 3, 1) := by decide +kernel
theorem dX5_perform_30 : decode cX5_perform 30 = .ok (.iload_n 2, 1) := by decide +kernel
theorem dX5_perform_31 : decode cX5_perform 31 = .ok (.ifCond .ne 42, 3) := by decide +kernel
theorem dX5_perform_34 : decode cX5_perform 34 = .ok (.iload_n 3, 1) := by decide +kernel
theorem dX5_perform_35 : decode cX5_perform 35 = .ok (.iload_n 1, 1) := by decide +kernel
theorem dX5_perform_36 : decode cX5_perform 36 = .ok (.if_icmp .ge 37, 3) := by decide +kernel
theorem dX5_perform_39 : decode cX5_perform 39 = .ok (.aload_n 0, 1) := by decide +kernel
theorem dX5_perform_40 : decode cX5_perform 40 = .ok (.invokevirtual 146, 3) := by decide +kernel
theorem dX5_perform_43 : decode cX5_perform 43 = .ok (.aload_n 0, 1) := by decide +kernel
theorem dX5_perform_44 : decode cX5_perform 44 = .ok (.dup, 1) := by decide +kernel
theorem dX5_perform_45 : decode cX5_perform 45 = .ok (.getfield 116, 3) := by decide +kernel
theorem dX5_perform_48 : decode cX5_perform 48 = .ok (.iconst 1, 1) := by decide +kernel
theorem dX5_perform_49 : decode cX5_perform 49 = .ok (.iadd, 1) := by decide +kernel
theorem dX5_perform_50 : decode cX5_perform 50 = .ok (.putfield 116, 3) := by decide +kernel
theorem dX5_perform_53 : decode cX5_perform 53 = .ok (.aload_n 0, 1) := by decide +kernel
theorem dX5_perform_54 : decode cX5_perform 54 = .ok (.invokevirtual 155, 3) := by decide +kernel
theorem dX5_perform_57 : decode cX5_perform 57 = .ok (.istore_n 2, 1) := by decide +kernel
theorem dX5_perform_58 : decode cX5_perform 58 = .ok (.iload_n 3, 1) := by decide +kernel
theorem dX5_perform_59 : decode cX5_perform 59 = .ok (.iload_n 2, 1) := by decide +kernel
theorem dX5_perform_60 : decode cX5_perform 60 = .ok (.ifCond .ne 7, 3) := by decide +kernel
theorem dX5_perform_63 : decode cX5_perform 63 = .ok (.iconst 1, 1) := by decide +kernel
theorem dX5_perform_64 : decode cX5_perform 64 = .ok (.goto 4, 3) := by decide +kernel
theorem dX5_perform_67 : decode cX5_perform 67 = .ok (.iconst 0, 1) := by decide +kernel
theorem dX5_perform_68 : decode cX5_perform 68 = .ok (.iadd, 1) := by decide +kernel
theorem dX5_perform_69 : decode cX5_perform 69 = .ok (.istore_n 3, 1) := by decide +kernel
theorem dX5_perform_70 : decode cX5_perform 70 = .ok (.goto (-40), 3) := by decide +kernel
theorem dX5_perform_73 : decode cX5_perform 73 = .ok (.iload_n 2, 1) := by decide +kernel
theorem dX5_perform_74 : decode cX5_perform 74 = .ok (.ifCond .ge 25, 3) := by decide +kernel
theorem dX5_perform_77 : decode cX5_perform 77 = .ok (.aload_n 0, 1) := by decide +kernel
theorem dX5_perform_78 : decode cX5_perform 78 = .ok (.invokevirtual 158, 3) := by decide +kernel
theorem dX5_perform_81 : decode cX5_perform 81 = .ok (.aload_n 0, 1) := by decide +kernel
theorem dX5_perform_82 : decode cX5_perform 82 = .ok (.iconst 1, 1) := by decide +kernel
theorem dX5_perform_83 : decode cX5_perform 83 = .ok (.putfield 161, 3) := by decide +kernel
theorem dX5_perform_86 : decode cX5_perform 86 = .ok (.aload_n 0, 1) := by decide +kernel
theorem dX5_perform_87 : decode cX5_perform 87 = .ok (.iload_n 3, 1) := by decide +kernel
theorem dX5_perform_88 : decode cX5_perform 88 = .ok (.putfield 164, 3) := by decide +kernel
theorem dX5_perform_91 : decode cX5_perform 91 = .ok (.aload_n 0, 1) := by decide +kernel
theorem dX5_perform_92 : decode cX5_perform 92 = .ok (.iload_n 2, 1) := by decide +kernel
theorem dX5_perform_93 : decode cX5_perform 93 = .ok (.putfield 167, 3) := by decide +kernel
theorem dX5_perform_96 : decode cX5_perform 96 = .ok (.bipush (-4), 2) := by decide +kernel
theorem dX5_perform_98 : decode cX5_perform 98 = .ok (.ireturn, 1) := by decide +kernel
theorem dX5_perform_99 : decode cX5_perform 99 = .ok (.iconst 0, 1) := by decide +kernel
theorem dX5_perform_100 : decode cX5_perform 100 = .ok (.istore 4, 2) := by decide +kernel
theorem dX5_perform_102 : decode cX5_perform 102 = .ok (.iload 4, 2) := by decide +kernel
theorem dX5_perform_104 : decode cX5_perform 104 = .ok (.sipush 538, 3) := by decide +kernel
theorem dX5_perform_107 : decode cX5_perform 107 = .ok (.if_icmp .ge 41, 3) := by decide +kernel
theorem dX5_perform_110 : decode cX5_perform 110 = .ok (.aload_n 0, 1) := by decide +kernel
theorem dX5_perform_111 : decode cX5_perform 111 = .ok (.getfield 7, 3) := by decide +kernel
theorem dX5_perform_114 : decode cX5_perform 114 = .ok (.iload 4, 2) := by decide +kernel
theorem dX5_perform_116 : decode cX5_perform 116 = .ok (.iaload, 1) := by decide +kernel
theorem dX5_perform_117 : decode cX5_perform 117 = .ok (.istore 5, 2) := by decide +kernel
theorem dX5_perform_119 : decode cX5_perform 119 = .ok (.aload_n 0, 1) := by decide +kernel
theorem dX5_perform_120 : decode cX5_perform 120 = .ok (.getfield 7, 3) := by decide +kernel
theorem dX5_perform_123 : decode cX5_perform 123 = .ok (.iload 4, 2) := by decide +kernel
theorem dX5_perform_125 : decode cX5_perform 125 = .ok (.aload_n 0, 1) := by decide +kernel
theorem dX5_perform_126 : decode cX5_perform 126 = .ok (.getfield 13, 3) := by decide +kernel
theorem dX5_perform_129 : decode cX5_perform 129 = .ok (.iload 4, 2) := by decide +kernel
theorem dX5_perform_131 : decode cX5_perform 131 = .ok (.iaload, 1) := by decide +kernel
theorem dX5_perform_132 : decode cX5_perform 132 = .ok (.iastore, 1) := by decide +kernel
theorem dX5_perform_133 : decode cX5_perform 133 = .ok (.aload_n 0, 1) := by decide +kernel
theorem dX5_perform_134 : decode cX5_perform 134 = .ok (.getfield 13, 3) := by decide +kernel
theorem dX5_perform_137 : decode cX5_perform 137 = .ok (.iload 4, 2) := by decide +kernel
theorem dX5_perform_139 : decode cX5_perform 139 = .ok (.iload 5, 2) := by decide +kernel
theorem dX5_perform_141 : decode cX5_perform 141 = .ok (.iastore, 1) := by decide +kernel
theorem dX5_perform_142 : decode cX5_perform 142 = .ok (.iinc 4 1, 3) := by decide +kernel
theorem dX5_perform_145 : decode cX5_perform 145 = .ok (.goto (-43), 3) := by decide +kernel
theorem dX5_perform_148 : decode cX5_perform 148 = .ok (.aload_n 0, 1) := by decide +kernel
theorem dX5_perform_149 : decode cX5_perform 149 = .ok (.invokevirtual 57, 3) := by decide +kernel
theorem dX5_perform_152 : decode cX5_perform 152 = .ok (.aload_n 0, 1) := by decide +kernel
theorem dX5_perform_153 : decode cX5_perform 153 = .ok (.invokevirtual 158, 3) := by decide +kernel
theorem dX5_perform_156 : decode cX5_perform 156 = .ok (.iload_n 1, 1) := by decide +kernel
theorem dX5_perform_157 : decode cX5_perform 157 = .ok (.ireturn, 1) := by decide +kernel
theorem dX5_stopped_0 : decode cX5_stopped 0 = .ok (.iload_n 1, 1) := by decide +kernel
theorem dX5_stopped_1 : decode cX5_stopped 1 = .ok (.iconst 0, 1) := by decide +kernel
theorem dX5_stopped_2 : decode cX5_stopped 2 = .ok (.iconst 1, 1) := by decide +kernel
theorem dX5_stopped_3 : decode cX5_stopped 3 = .ok (.invokestatic 32, 3) := by decide +kernel
theorem dX5_stopped_6 : decode cX5_stopped 6 = .ok (.ifCond .ne 6, 3) := by decide +kernel
theorem dX5_stopped_9 : decode cX5_stopped 9 = .ok (.bipush (-2), 2) := by decide +kernel
theorem dX5_stopped_11 : decode cX5_stopped 11 = .ok (.ireturn, 1) := by decide +kernel
theorem dX5_stopped_12 : decode cX5_stopped 12 = .ok (.aload_n 0, 1) := by decide +kernel
theorem dX5_stopped_13 : decode cX5_stopped 13 = .ok (.getfield 161, 3) := by decide +kernel
theorem dX5_stopped_16 : decode cX5_stopped 16 = .ok (.ifCond .ne 8, 3) := by decide +kernel
theorem dX5_stopped_19 : decode cX5_stopped 19 = .ok (.bipush (-5), 2) := by decide +kernel
theorem dX5_stopped_21 : decode cX5_stopped 21 = .ok (.goto 18, 3) := by decide +kernel
theorem dX5_stopped_24 : decode cX5_stopped 24 = .ok (.iload_n 1, 1) := by decide +kernel
theorem dX5_stopped_25 : decode cX5_stopped 25 = .ok (.ifCond .ne 10, 3) := by decide +kernel
theorem dX5_stopped_28 : decode cX5_stopped 28 = .ok (.aload_n 0, 1) := by decide +kernel
theorem dX5_stopped_29 : decode cX5_stopped 29 = .ok (.getfield 164, 3) := by decide +kernel
theorem dX5_stopped_32 : decode cX5_stopped 32 = .ok (.goto 7, 3) := by decide +kernel
theorem dX5_stopped_35 : decode cX5_stopped 35 = .ok (.aload_n 0, 1) := by decide +kernel
theorem dX5_stopped_36 : decode cX5_stopped 36 = .ok (.getfield 167, 3) := by decide +kernel
theorem dX5_stopped_39 : decode cX5_stopped 39 = .ok (.ireturn, 1) := by decide +kernel
theorem dX5_undo_0 : decode cX5_undo 0 = .ok (.aload_n 0, 1) := by decide +kernel
theorem dX5_undo_1 : decode cX5_undo 1 = .ok (.getfield 44, 3) := by decide +kernel
theorem dX5_undo_4 : decode cX5_undo 4 = .ok (.ifCond .ne 6, 3) := by decide +kernel
theorem dX5_undo_7 : decode cX5_undo 7 = .ok (.bipush (-5), 2) := by decide +kernel
theorem dX5_undo_9 : decode cX5_undo 9 = .ok (.ireturn, 1) := by decide +kernel
theorem dX5_undo_10 : decode cX5_undo 10 = .ok (.aload_n 0, 1) := by decide +kernel
theorem dX5_undo_11 : decode cX5_undo 11 = .ok (.dup, 1) := by decide +kernel
theorem dX5_undo_12 : decode cX5_undo 12 = .ok (.getfield 44, 3) := by decide +kernel
theorem dX5_undo_15 : decode cX5_undo 15 = .ok (.iconst 1, 1) := by decide +kernel
theorem dX5_undo_16 : decode cX5_undo 16 = .ok (.isub, 1) := by decide +kernel
theorem dX5_undo_17 : decode cX5_undo 17 = .ok (.putfield 44, 3) := by decide +kernel
theorem dX5_undo_20 : decode cX5_undo 20 = .ok (.iconst 0, 1) := by decide +kernel
theorem dX5_undo_21 : decode cX5_undo 21 = .ok (.istore_n 1, 1) := by decide +kernel
theorem dX5_undo_22 : decode cX5_undo 22 = .ok (.iload_n 1, 1) := by decide +kernel
theorem dX5_undo_23 : decode cX5_undo 23 = .ok (.sipush 538, 3) := by decide +kernel
theorem dX5_undo_26 : decode cX5_undo 26 = .ok (.if_icmp .ge 30, 3) := by decide +kernel
theorem dX5_undo_29 : decode cX5_undo 29 = .ok (.aload_n 0, 1) := by decide +kernel
theorem dX5_undo_30 : decode cX5_undo 30 = .ok (.getfield 7, 3) := by decide +kernel
theorem dX5_undo_33 : decode cX5_undo 33 = .ok (.iload_n 1, 1) := by decide +kernel
theorem dX5_undo_34 : decode cX5_undo 34 = .ok (.aload_n 0, 1) := by decide +kernel
theorem dX5_undo_35 : decode cX5_undo 35 = .ok (.getfield 16, 3) := by decide +kernel
theorem dX5_undo_38 : decode cX5_undo 38 = .ok (.sipush 538, 3) := by decide +kernel
theorem dX5_undo_41 : decode cX5_undo 41 = .ok (.aload_n 0, 1) := by decide +kernel
theorem dX5_undo_42 : decode cX5_undo 42 = .ok (.getfield 44, 3) := by decide +kernel
theorem dX5_undo_45 : decode cX5_undo 45 = .ok (.imul, 1) := by decide +kernel
theorem dX5_undo_46 : decode cX5_undo 46 = .ok (.iload_n 1, 1) := by decide +kernel
theorem dX5_undo_47 : decode cX5_undo 47 = .ok (.iadd, 1) := by decide +kernel
theorem dX5_undo_48 : decode cX5_undo 48 = .ok (.iaload, 1) := by decide +kernel
theorem dX5_undo_49 : decode cX5_undo 49 = .ok (.iastore, 1) := by decide +kernel
theorem dX5_undo_50 : decode cX5_undo 50 = .ok (.iinc 1 1, 3) := by decide +kernel
theorem dX5_undo_53 : decode cX5_undo 53 = .ok (.goto (-31), 3) := by decide +kernel
theorem dX5_undo_56 : decode cX5_undo 56 = .ok (.aload_n 0, 1) := by decide +kernel
theorem dX5_undo_57 : decode cX5_undo 57 = .ok (.getfield 44, 3) := by decide +kernel
theorem dX5_undo_60 : decode cX5_undo 60 = .ok (.ireturn, 1) := by decide +kernel
theorem dX5_keep_0 : decode cX5_keep 0 = .ok (.iconst 0, 1) := by decide +kernel
theorem dX5_keep_1 : decode cX5_keep 1 = .ok (.istore_n 1, 1) := by decide +kernel
theorem dX5_keep_2 : decode cX5_keep 2 = .ok (.iload_n 1, 1) := by decide +kernel
theorem dX5_keep_3 : decode cX5_keep 3 = .ok (.sipush 538, 3) := by decide +kernel
theorem dX5_keep_6 : decode cX5_keep 6 = .ok (.if_icmp .ge 21, 3) := by decide +kernel
theorem dX5_keep_9 : decode cX5_keep 9 = .ok (.aload_n 0, 1) := by decide +kernel
theorem dX5_keep_10 : decode cX5_keep 10 = .ok (.getfield 19, 3) := by decide +kernel
theorem dX5_keep_13 : decode cX5_keep 13 = .ok (.iload_n 1, 1) := by decide +kernel
theorem dX5_keep_14 : decode cX5_keep 14 = .ok (.aload_n 0, 1) := by decide +kernel
theorem dX5_keep_15 : decode cX5_keep 15 = .ok (.getfield 7, 3) := by decide +kernel
theorem dX5_keep_18 : decode cX5_keep 18 = .ok (.iload_n 1, 1) := by decide +kernel
theorem dX5_keep_19 : decode cX5_keep 19 = .ok (.iaload, 1) := by decide +kernel
theorem dX5_keep_20 : decode cX5_keep 20 = .ok (.iastore, 1) := by decide +kernel
theorem dX5_keep_21 : decode cX5_keep 21 = .ok (.iinc 1 1, 3) := by decide +kernel
theorem dX5_keep_24 : decode cX5_keep 24 = .ok (.goto (-22), 3) := by decide +kernel
theorem dX5_keep_27 : decode cX5_keep 27 = .ok (.aload_n 0, 1) := by decide +kernel
theorem dX5_keep_28 : decode cX5_keep 28 = .ok (.iconst 1, 1) := by decide +kernel
theorem dX5_keep_29 : decode cX5_keep 29 = .ok (.putfield 170, 3) := by decide +kernel
theorem dX5_keep_32 : decode cX5_keep 32 = .ok (.aload_n 0, 1) := by decide +kernel
theorem dX5_keep_33 : decode cX5_keep 33 = .ok (.getfield 7, 3) := by decide +kernel
theorem dX5_keep_36 : decode cX5_keep 36 = .ok (.sipush 536, 3) := by decide +kernel
theorem dX5_keep_39 : decode cX5_keep 39 = .ok (.iaload, 1) := by decide +kernel
theorem dX5_keep_40 : decode cX5_keep 40 = .ok (.ireturn, 1) := by decide +kernel
theorem dX5_restore_0 : decode cX5_restore 0 = .ok (.aload_n 0, 1) := by decide +kernel
theorem dX5_restore_1 : decode cX5_restore 1 = .ok (.getfield 170, 3) := by decide +kernel
theorem dX5_restore_4 : decode cX5_restore 4 = .ok (.ifCond .ne 6, 3) := by decide +kernel
theorem dX5_restore_7 : decode cX5_restore 7 = .ok (.bipush (-5), 2) := by decide +kernel
theorem dX5_restore_9 : decode cX5_restore 9 = .ok (.ireturn, 1) := by decide +kernel
theorem dX5_restore_10 : decode cX5_restore 10 = .ok (.aload_n 0, 1) := by decide +kernel
theorem dX5_restore_11 : decode cX5_restore 11 = .ok (.invokevirtual 57, 3) := by decide +kernel
theorem dX5_restore_14 : decode cX5_restore 14 = .ok (.iconst 0, 1) := by decide +kernel
theorem dX5_restore_15 : decode cX5_restore 15 = .ok (.istore_n 1, 1) := by decide +kernel
theorem dX5_restore_16 : decode cX5_restore 16 = .ok (.iload_n 1, 1) := by decide +kernel
theorem dX5_restore_17 : decode cX5_restore 17 = .ok (.sipush 538, 3) := by decide +kernel
theorem dX5_restore_20 : decode cX5_restore 20 = .ok (.if_icmp .ge 21, 3) := by decide +kernel
theorem dX5_restore_23 : decode cX5_restore 23 = .ok (.aload_n 0, 1) := by decide +kernel
theorem dX5_restore_24 : decode cX5_restore 24 = .ok (.getfield 7, 3) := by decide +kernel
theorem dX5_restore_27 : decode cX5_restore 27 = .ok (.iload_n 1, 1) := by decide +kernel
theorem dX5_restore_28 : decode cX5_restore 28 = .ok (.aload_n 0, 1) := by decide +kernel
theorem dX5_restore_29 : decode cX5_restore 29 = .ok (.getfield 19, 3) := by decide +kernel
theorem dX5_restore_32 : decode cX5_restore 32 = .ok (.iload_n 1, 1) := by decide +kernel
theorem dX5_restore_33 : decode cX5_restore 33 = .ok (.iaload, 1) := by decide +kernel
theorem dX5_restore_34 : decode cX5_restore 34 = .ok (.iastore, 1) := by decide +kernel
theorem dX5_restore_35 : decode cX5_restore 35 = .ok (.iinc 1 1, 3) := by decide +kernel
theorem dX5_restore_38 : decode cX5_restore 38 = .ok (.goto (-22), 3) := by decide +kernel
theorem dX5_restore_41 : decode cX5_restore 41 = .ok (.aload_n 0, 1) := by decide +kernel
theorem dX5_restore_42 : decode cX5_restore 42 = .ok (.getfield 7, 3) := by decide +kernel
theorem dX5_restore_45 : decode cX5_restore 45 = .ok (.sipush 536, 3) := by decide +kernel
theorem dX5_restore_48 : decode cX5_restore 48 = .ok (.iaload, 1) := by decide +kernel
theorem dX5_restore_49 : decode cX5_restore 49 = .ok (.ireturn, 1) := by decide +kernel
theorem dX5_snail_0 : decode cX5_snail 0 = .ok (.aload_n 0, 1) := by decide +kernel
theorem dX5_snail_1 : decode cX5_snail 1 = .ok (.iload_n 1, 1) := by decide +kernel
theorem dX5_snail_2 : decode cX5_snail 2 = .ok (.invokevirtual 63, 3) := by decide +kernel
theorem dX5_snail_5 : decode cX5_snail 5 = .ok (.ifCond .ne 5, 3) := by decide +kernel
theorem dX5_snail_8 : decode cX5_snail 8 = .ok (.iconst (-1), 1) := by decide +kernel
theorem dX5_snail_9 : decode cX5_snail 9 = .ok (.ireturn, 1) := by decide +kernel
theorem dX5_snail_10 : decode cX5_snail 10 = .ok (.iload_n 2, 1) := by decide +kernel
theorem dX5_snail_11 : decode cX5_snail 11 = .ok (.iconst 0, 1) := by decide +kernel
theorem dX5_snail_12 : decode cX5_snail 12 = .ok (.bipush 9, 2) := by decide +kernel
theorem dX5_snail_14 : decode cX5_snail 14 = .ok (.invokestatic 32, 3) := by decide +kernel
theorem dX5_snail_17 : decode cX5_snail 17 = .ok (.ifCond .ne 6, 3) := by decide +kernel
theorem dX5_snail_20 : decode cX5_snail 20 = .ok (.bipush (-2), 2) := by decide +kernel
theorem dX5_snail_22 : decode cX5_snail 22 = .ok (.ireturn, 1) := by decide +kernel
theorem dX5_snail_23 : decode cX5_snail 23 = .ok (.aload_n 0, 1) := by decide +kernel
theorem dX5_snail_24 : decode cX5_snail 24 = .ok (.getfield 7, 3) := by decide +kernel
theorem dX5_snail_27 : decode cX5_snail 27 = .ok (.iload_n 1, 1) := by decide +kernel
theorem dX5_snail_28 : decode cX5_snail 28 = .ok (.iload_n 2, 1) := by decide +kernel
theorem dX5_snail_29 : decode cX5_snail 29 = .ok (.invokestatic 40, 3) := by decide +kernel
theorem dX5_snail_32 : decode cX5_snail 32 = .ok (.iaload, 1) := by decide +kernel
theorem dX5_snail_33 : decode cX5_snail 33 = .ok (.istore_n 3, 1) := by decide +kernel
theorem dX5_snail_34 : decode cX5_snail 34 = .ok (.iload_n 2, 1) := by decide +kernel
theorem dX5_snail_35 : decode cX5_snail 35 = .ok (.iconst 4, 1) := by decide +kernel
theorem dX5_snail_36 : decode cX5_snail 36 = .ok (.if_icmp .ne 16, 3) := by decide +kernel
theorem dX5_snail_39 : decode cX5_snail 39 = .ok (.iload_n 3, 1) := by decide +kernel
theorem dX5_snail_40 : decode cX5_snail 40 = .ok (.ifCond .ne 8, 3) := by decide +kernel
theorem dX5_snail_43 : decode cX5_snail 43 = .ok (.bipush (-5), 2) := by decide +kernel
theorem dX5_snail_45 : decode cX5_snail 45 = .ok (.goto 29, 3) := by decide +kernel
theorem dX5_snail_48 : decode cX5_snail 48 = .ok (.iload_n 3, 1) := by decide +kernel
theorem dX5_snail_49 : decode cX5_snail 49 = .ok (.goto 25, 3) := by decide +kernel
theorem dX5_snail_52 : decode cX5_snail 52 = .ok (.iload_n 2, 1) := by decide +kernel
theorem dX5_snail_53 : decode cX5_snail 53 = .ok (.bipush 8, 2) := by decide +kernel
theorem dX5_snail_55 : decode cX5_snail 55 = .ok (.if_icmp .ne 18, 3) := by decide +kernel
theorem dX5_snail_58 : decode cX5_snail 58 = .ok (.iload_n 3, 1) := by decide +kernel
theorem dX5_snail_59 : decode cX5_snail 59 = .ok (.ifCond .ne 8, 3) := by decide +kernel
theorem dX5_snail_62 : decode cX5_snail 62 = .ok (.bipush (-5), 2) := by decide +kernel
theorem dX5_snail_64 : decode cX5_snail 64 = .ok (.goto 10, 3) := by decide +kernel
theorem dX5_snail_67 : decode cX5_snail 67 = .ok (.iload_n 3, 1) := by decide +kernel
theorem dX5_snail_68 : decode cX5_snail 68 = .ok (.iconst 1, 1) := by decide +kernel
theorem dX5_snail_69 : decode cX5_snail 69 = .ok (.isub, 1) := by decide +kernel
theorem dX5_snail_70 : decode cX5_snail 70 = .ok (.goto 4, 3) := by decide +kernel
theorem dX5_snail_73 : decode cX5_snail 73 = .ok (.iload_n 3, 1) := by decide +kernel
theorem dX5_snail_74 : decode cX5_snail 74 = .ok (.ireturn, 1) := by decide +kernel
theorem dX5_cell_0 : decode cX5_cell 0 = .ok (.iload_n 1, 1) := by decide +kernel
theorem dX5_cell_1 : decode cX5_cell 1 = .ok (.iload_n 2, 1) := by decide +kernel
theorem dX5_cell_2 : decode cX5_cell 2 = .ok (.invokestatic 66, 3) := by decide +kernel
theorem dX5_cell_5 : decode cX5_cell 5 = .ok (.ifCond .ne 5, 3) := by decide +kernel
theorem dX5_cell_8 : decode cX5_cell 8 = .ok (.iconst (-1), 1) := by decide +kernel
theorem dX5_cell_9 : decode cX5_cell 9 = .ok (.ireturn, 1) := by decide +kernel
theorem dX5_cell_10 : decode cX5_cell 10 = .ok (.iload_n 1, 1) := by decide +kernel
theorem dX5_cell_11 : decode cX5_cell 11 = .ok (.iload_n 2, 1) := by decide +kernel
theorem dX5_cell_12 : decode cX5_cell 12 = .ok (.invokestatic 70, 3) := by decide +kernel
theorem dX5_cell_15 : decode cX5_cell 15 = .ok (.istore 4, 2) := by decide +kernel
theorem dX5_cell_17 : decode cX5_cell 17 = .ok (.iload_n 3, 1) := by decide +kernel
theorem dX5_cell_18 : decode cX5_cell 18 = .ok (.tableswitch 108 0 3 #[30, 40, 71, 101], 30) := by decide +kernel
theorem dX5_cell_48 : decode cX5_cell 48 = .ok (.aload_n 0, 1) := by decide +kernel
theorem dX5_cell_49 : decode cX5_cell 49 = .ok (.getfield 7, 3) := by decide +kernel
theorem dX5_cell_52 : decode cX5_cell 52 = .ok (.iconst 0, 1) := by decide +kernel
theorem dX5_cell_53 : decode cX5_cell 53 = .ok (.iload 4, 2) := by decide +kernel
theorem dX5_cell_55 : decode cX5_cell 55 = .ok (.iadd, 1) := by decide +kernel
theorem dX5_cell_56 : decode cX5_cell 56 = .ok (.iaload, 1) := by decide +kernel
theorem dX5_cell_57 : decode cX5_cell 57 = .ok (.ireturn, 1) := by decide +kernel
theorem dX5_cell_58 : decode cX5_cell 58 = .ok (.aload_n 0, 1) := by decide +kernel
theorem dX5_cell_59 : decode cX5_cell 59 = .ok (.getfield 7, 3) := by decide +kernel
theorem dX5_cell_62 : decode cX5_cell 62 = .ok (.bipush 120, 2) := by decide +kernel
theorem dX5_cell_64 : decode cX5_cell 64 = .ok (.iload 4, 2) := by decide +kernel
theorem dX5_cell_66 : decode cX5_cell 66 = .ok (.iadd, 1) := by decide +kernel
theorem dX5_cell_67 : decode cX5_cell 67 = .ok (.iaload, 1) := by decide +kernel
theorem dX5_cell_68 : decode cX5_cell 68 = .ok (.ifCond .ne 8, 3) := by decide +kernel
theorem dX5_cell_71 : decode cX5_cell 71 = .ok (.bipush (-5), 2) := by decide +kernel
theorem dX5_cell_73 : decode cX5_cell 73 = .ok (.goto 15, 3) := by decide +kernel
theorem dX5_cell_76 : decode cX5_cell 76 = .ok (.aload_n 0, 1) := by decide +kernel
theorem dX5_cell_77 : decode cX5_cell 77 = .ok (.getfield 7, 3) := by decide +kernel
theorem dX5_cell_80 : decode cX5_cell 80 = .ok (.bipush 120, 2) := by decide +kernel
theorem dX5_cell_82 : decode cX5_cell 82 = .ok (.iload 4, 2) := by decide +kernel
theorem dX5_cell_84 : decode cX5_cell 84 = .ok (.iadd, 1) := by decide +kernel
theorem dX5_cell_85 : decode cX5_cell 85 = .ok (.iaload, 1) := by decide +kernel
theorem dX5_cell_86 : decode cX5_cell 86 = .ok (.iconst 1, 1) := by decide +kernel
theorem dX5_cell_87 : decode cX5_cell 87 = .ok (.isub, 1) := by decide +kernel
theorem dX5_cell_88 : decode cX5_cell 88 = .ok (.ireturn, 1) := by decide +kernel
theorem dX5_cell_89 : decode cX5_cell 89 = .ok (.aload_n 0, 1) := by decide +kernel
theorem dX5_cell_90 : decode cX5_cell 90 = .ok (.getfield 7, 3) := by decide +kernel
theorem dX5_cell_93 : decode cX5_cell 93 = .ok (.bipush 120, 2) := by decide +kernel
theorem dX5_cell_95 : decode cX5_cell 95 = .ok (.iload 4, 2) := by decide +kernel
theorem dX5_cell_97 : decode cX5_cell 97 = .ok (.iadd, 1) := by decide +kernel
theorem dX5_cell_98 : decode cX5_cell 98 = .ok (.iaload, 1) := by decide +kernel
theorem dX5_cell_99 : decode cX5_cell 99 = .ok (.ifCond .ne 8, 3) := by decide +kernel
theorem dX5_cell_102 : decode cX5_cell 102 = .ok (.bipush (-5), 2) := by decide +kernel
theorem dX5_cell_104 : decode cX5_cell 104 = .ok (.goto 14, 3) := by decide +kernel
theorem dX5_cell_107 : decode cX5_cell 107 = .ok (.aload_n 0, 1) := by decide +kernel
theorem dX5_cell_108 : decode cX5_cell 108 = .ok (.getfield 7, 3) := by decide +kernel
theorem dX5_cell_111 : decode cX5_cell 111 = .ok (.sipush 240, 3) := by decide +kernel
theorem dX5_cell_114 : decode cX5_cell 114 = .ok (.iload 4, 2) := by decide +kernel
theorem dX5_cell_116 : decode cX5_cell 116 = .ok (.iadd, 1) := by decide +kernel
theorem dX5_cell_117 : decode cX5_cell 117 = .ok (.iaload, 1) := by decide +kernel
theorem dX5_cell_118 : decode cX5_cell 118 = .ok (.ireturn, 1) := by decide +kernel
theorem dX5_cell_119 : decode cX5_cell 119 = .ok (.aload_n 0, 1) := by decide +kernel
theorem dX5_cell_120 : decode cX5_cell 120 = .ok (.iload_n 1, 1) := by decide +kernel
theorem dX5_cell_121 : decode cX5_cell 121 = .ok (.iload_n 2, 1) := by decide +kernel
theorem dX5_cell_122 : decode cX5_cell 122 = .ok (.invokevirtual 51, 3) := by decide +kernel
theorem dX5_cell_125 : decode cX5_cell 125 = .ok (.ireturn, 1) := by decide +kernel
theorem dX5_cell_126 : decode cX5_cell 126 = .ok (.bipush (-2), 2) := by decide +kernel
theorem dX5_cell_128 : decode cX5_cell 128 = .ok (.ireturn, 1) := by decide +kernel
theorem dX5_cost_0 : decode cX5_cost 0 = .ok (.aload_n 0, 1) := by decide +kernel
theorem dX5_cost_1 : decode cX5_cost 1 = .ok (.iload_n 1, 1) := by decide +kernel
theorem dX5_cost_2 : decode cX5_cost 2 = .ok (.invokevirtual 63, 3) := by decide +kernel
theorem dX5_cost_5 : decode cX5_cost 5 = .ok (.ifCond .ne 7, 3) := by decide +kernel
theorem dX5_cost_8 : decode cX5_cost 8 = .ok (.iconst (-1), 1) := by decide +kernel
theorem dX5_cost_9 : decode cX5_cost 9 = .ok (.goto 36, 3) := by decide +kernel
theorem dX5_cost_12 : decode cX5_cost 12 = .ok (.iload_n 2, 1) := by decide +kernel
theorem dX5_cost_13 : decode cX5_cost 13 = .ok (.iconst 0, 1) := by decide +kernel
theorem dX5_cost_14 : decode cX5_cost 14 = .ok (.iconst 2, 1) := by decide +kernel
theorem dX5_cost_15 : decode cX5_cost 15 = .ok (.invokestatic 32, 3) := by decide +kernel
theorem dX5_cost_18 : decode cX5_cost 18 = .ok (.ifCond .ne 8, 3) := by decide +kernel
theorem dX5_cost_21 : decode cX5_cost 21 = .ok (.bipush (-2), 2) := by decide +kernel
theorem dX5_cost_23 : decode cX5_cost 23 = .ok (.goto 22, 3) := by decide +kernel
theorem dX5_cost_26 : decode cX5_cost 26 = .ok (.aload_n 0, 1) := by decide +kernel
theorem dX5_cost_27 : decode cX5_cost 27 = .ok (.iload_n 1, 1) := by decide +kernel
theorem dX5_cost_28 : decode cX5_cost 28 = .ok (.invokevirtual 48, 3) := by decide +kernel
theorem dX5_cost_31 : decode cX5_cost 31 = .ok (.ifCond .eq 12, 3) := by decide +kernel
theorem dX5_cost_34 : decode cX5_cost 34 = .ok (.aload_n 0, 1) := by decide +kernel
theorem dX5_cost_35 : decode cX5_cost 35 = .ok (.iload_n 1, 1) := by decide +kernel
theorem dX5_cost_36 : decode cX5_cost 36 = .ok (.iload_n 2, 1) := by decide +kernel
theorem dX5_cost_37 : decode cX5_cost 37 = .ok (.invokevirtual 93, 3) := by decide +kernel
theorem dX5_cost_40 : decode cX5_cost 40 = .ok (.goto 5, 3) := by decide +kernel
theorem dX5_cost_43 : decode cX5_cost 43 = .ok (.bipush (-4), 2) := by decide +kernel
theorem dX5_cost_45 : decode cX5_cost 45 = .ok (.ireturn, 1) := by decide +kernel
theorem dX5_does_0 : decode cX5_does 0 = .ok (.aload_n 0, 1) := by decide +kernel
theorem dX5_does_1 : decode cX5_does 1 = .ok (.iload_n 1, 1) := by decide +kernel
theorem dX5_does_2 : decode cX5_does 2 = .ok (.invokevirtual 63, 3) := by decide +kernel
theorem dX5_does_5 : decode cX5_does 5 = .ok (.ifCond .ne 7, 3) := by decide +kernel
theorem dX5_does_8 : decode cX5_does 8 = .ok (.iconst (-1), 1) := by decide +kernel
theorem dX5_does_9 : decode cX5_does 9 = .ok (.goto 21, 3) := by decide +kernel
theorem dX5_does_12 : decode cX5_does 12 = .ok (.aload_n 0, 1) := by decide +kernel
theorem dX5_does_13 : decode cX5_does 13 = .ok (.iload_n 1, 1) := by decide +kernel
theorem dX5_does_14 : decode cX5_does 14 = .ok (.invokevirtual 48, 3) := by decide +kernel
theorem dX5_does_17 : decode cX5_does 17 = .ok (.ifCond .eq 11, 3) := by decide +kernel
theorem dX5_does_20 : decode cX5_does 20 = .ok (.aload_n 0, 1) := by decide +kernel
theorem dX5_does_21 : decode cX5_does 21 = .ok (.iload_n 1, 1) := by decide +kernel
theorem dX5_does_22 : decode cX5_does 22 = .ok (.invokevirtual 96, 3) := by decide +kernel
theorem dX5_does_25 : decode cX5_does 25 = .ok (.goto 5, 3) := by decide +kernel
theorem dX5_does_28 : decode cX5_does 28 = .ok (.bipush (-4), 2) := by decide +kernel
theorem dX5_does_30 : decode cX5_does 30 = .ok (.ireturn, 1) := by decide +kernel
theorem dX5_reason_0 : decode cX5_reason 0 = .ok (.aload_n 0, 1) := by decide +kernel
theorem dX5_reason_1 : decode cX5_reason 1 = .ok (.iload_n 1, 1) := by decide +kernel
theorem dX5_reason_2 : decode cX5_reason 2 = .ok (.invokevirtual 63, 3) := by decide +kernel
theorem dX5_reason_5 : decode cX5_reason 5 = .ok (.ifCond .eq 11, 3) := by decide +kernel
theorem dX5_reason_8 : decode cX5_reason 8 = .ok (.iload_n 2, 1) := by decide +kernel
theorem dX5_reason_9 : decode cX5_reason 9 = .ok (.iload_n 3, 1) := by decide +kernel
theorem dX5_reason_10 : decode cX5_reason 10 = .ok (.invokestatic 66, 3) := by decide +kernel
theorem dX5_reason_13 : decode cX5_reason 13 = .ok (.ifCond .ne 7, 3) := by decide +kernel
theorem dX5_reason_16 : decode cX5_reason 16 = .ok (.iconst (-1), 1) := by decide +kernel
theorem dX5_reason_17 : decode cX5_reason 17 = .ok (.goto 13, 3) := by decide +kernel
theorem dX5_reason_20 : decode cX5_reason 20 = .ok (.aload_n 0, 1) := by decide +kernel
theorem dX5_reason_21 : decode cX5_reason 21 = .ok (.iload_n 1, 1) := by decide +kernel
theorem dX5_reason_22 : decode cX5_reason 22 = .ok (.iload_n 2, 1) := by decide +kernel
theorem dX5_reason_23 : decode cX5_reason 23 = .ok (.iload_n 3, 1) := by decide +kernel
theorem dX5_reason_24 : decode cX5_reason 24 = .ok (.invokestatic 70, 3) := by decide +kernel
theorem dX5_reason_27 : decode cX5_reason 27 = .ok (.invokevirtual 90, 3) := by decide +kernel
theorem dX5_reason_30 : decode cX5_reason 30 = .ok (.ireturn, 1) := by decide +kernel
theorem dX5_ends_0 : decode cX5_ends 0 = .ok (.iconst 0, 1) := by decide +kernel
theorem dX5_ends_1 : decode cX5_ends 1 = .ok (.istore_n 2, 1) := by decide +kernel
theorem dX5_ends_2 : decode cX5_ends 2 = .ok (.aload_n 0, 1) := by decide +kernel
theorem dX5_ends_3 : decode cX5_ends 3 = .ok (.getfield 7, 3) := by decide +kernel
theorem dX5_ends_6 : decode cX5_ends 6 = .ok (.iload_n 1, 1) := by decide +kernel
theorem dX5_ends_7 : decode cX5_ends 7 = .ok (.iconst 3, 1) := by decide +kernel
theorem dX5_ends_8 : decode cX5_ends 8 = .ok (.invokestatic 40, 3) := by decide +kernel
theorem dX5_ends_11 : decode cX5_ends 11 = .ok (.iaload, 1) := by decide +kernel
theorem dX5_ends_12 : decode cX5_ends 12 = .ok (.ifCond .ne 20, 3) := by decide +kernel
theorem dX5_ends_15 : decode cX5_ends 15 = .ok (.iload_n 2, 1) := by decide +kernel
theorem dX5_ends_16 : decode cX5_ends 16 = .ok (.sipush 300, 3) := by decide +kernel
theorem dX5_ends_19 : decode cX5_ends 19 = .ok (.if_icmp .ge 13, 3) := by decide +kernel
theorem dX5_ends_22 : decode cX5_ends 22 = .ok (.aload_n 0, 1) := by decide +kernel
theorem dX5_ends_23 : decode cX5_ends 23 = .ok (.invokevirtual 103, 3) := by decide +kernel
theorem dX5_ends_26 : decode cX5_ends 26 = .ok (.iinc 2 1, 3) := by decide +kernel
theorem dX5_ends_29 : decode cX5_ends 29 = .ok (.goto (-27), 3) := by decide +kernel
theorem dX5_ends_32 : decode cX5_ends 32 = .ok (.aload_n 0, 1) := by decide +kernel
theorem dX5_ends_33 : decode cX5_ends 33 = .ok (.getfield 7, 3) := by decide +kernel
theorem dX5_ends_36 : decode cX5_ends 36 = .ok (.iload_n 1, 1) := by decide +kernel
theorem dX5_ends_37 : decode cX5_ends 37 = .ok (.iconst 3, 1) := by decide +kernel
theorem dX5_ends_38 : decode cX5_ends 38 = .ok (.invokestatic 40, 3) := by decide +kernel
theorem dX5_ends_41 : decode cX5_ends 41 = .ok (.iaload, 1) := by decide +kernel
theorem dX5_ends_42 : decode cX5_ends 42 = .ok (.iconst 1, 1) := by decide +kernel
theorem dX5_ends_43 : decode cX5_ends 43 = .ok (.if_icmp .ne 7, 3) := by decide +kernel
theorem dX5_ends_46 : decode cX5_ends 46 = .ok (.iload_n 2, 1) := by decide +kernel
theorem dX5_ends_47 : decode cX5_ends 47 = .ok (.goto 5, 3) := by decide +kernel
theorem dX5_ends_50 : decode cX5_ends 50 = .ok (.bipush (-5), 2) := by decide +kernel
theorem dX5_ends_52 : decode cX5_ends 52 = .ok (.ireturn, 1) := by decide +kernel
theorem dX5_endsIn_0 : decode cX5_endsIn 0 = .ok (.aload_n 0, 1) := by decide +kernel
theorem dX5_endsIn_1 : decode cX5_endsIn 1 = .ok (.iload_n 1, 1) := by decide +kernel
theorem dX5_endsIn_2 : decode cX5_endsIn 2 = .ok (.invokevirtual 63, 3) := by decide +kernel
theorem dX5_endsIn_5 : decode cX5_endsIn 5 = .ok (.ifCond .ne 5, 3) := by decide +kernel
theorem dX5_endsIn_8 : decode cX5_endsIn 8 = .ok (.iconst (-1), 1) := by decide +kernel
theorem dX5_endsIn_9 : decode cX5_endsIn 9 = .ok (.ireturn, 1) := by decide +kernel
theorem dX5_endsIn_10 : decode cX5_endsIn 10 = .ok (.aload_n 0, 1) := by decide +kernel
theorem dX5_endsIn_11 : decode cX5_endsIn 11 = .ok (.getfield 7, 3) := by decide +kernel
theorem dX5_endsIn_14 : decode cX5_endsIn 14 = .ok (.iload_n 1, 1) := by decide +kernel
theorem dX5_endsIn_15 : decode cX5_endsIn 15 = .ok (.iconst 3, 1) := by decide +kernel
theorem dX5_endsIn_16 : decode cX5_endsIn 16 = .ok (.invokestatic 40, 3) := by decide +kernel
theorem dX5_endsIn_19 : decode cX5_endsIn 19 = .ok (.iaload, 1) := by decide +kernel
theorem dX5_endsIn_20 : decode cX5_endsIn 20 = .ok (.iconst 2, 1) := by decide +kernel
theorem dX5_endsIn_21 : decode cX5_endsIn 21 = .ok (.if_icmp .ne 6, 3) := by decide +kernel
theorem dX5_endsIn_24 : decode cX5_endsIn 24 = .ok (.bipush (-4), 2) := by decide +kernel
theorem dX5_endsIn_26 : decode cX5_endsIn 26 = .ok (.ireturn, 1) := by decide +kernel
theorem dX5_endsIn_27 : decode cX5_endsIn 27 = .ok (.aload_n 0, 1) := by decide +kernel
theorem dX5_endsIn_28 : decode cX5_endsIn 28 = .ok (.invokevirtual 152, 3) := by decide +kernel
theorem dX5_endsIn_31 : decode cX5_endsIn 31 = .ok (.aload_n 0, 1) := by decide +kernel
theorem dX5_endsIn_32 : decode cX5_endsIn 32 = .ok (.iload_n 1, 1) := by decide +kernel
theorem dX5_endsIn_33 : decode cX5_endsIn 33 = .ok (.invokevirtual 173, 3) := by decide +kernel
theorem dX5_endsIn_36 : decode cX5_endsIn 36 = .ok (.istore_n 2, 1) := by decide +kernel
theorem dX5_endsIn_37 : decode cX5_endsIn 37 = .ok (.aload_n 0, 1) := by decide +kernel
theorem dX5_endsIn_38 : decode cX5_endsIn 38 = .ok (.invokevirtual 158, 3) := by decide +kernel
theorem dX5_endsIn_41 : decode cX5_endsIn 41 = .ok (.iload_n 2, 1) := by decide +kernel
theorem dX5_endsIn_42 : decode cX5_endsIn 42 = .ok (.ireturn, 1) := by decide +kernel
theorem dX5_wayUp_0 : decode cX5_wayUp 0 = .ok (.iload_n 1, 1) := by decide +kernel
theorem dX5_wayUp_1 : decode cX5_wayUp 1 = .ok (.iload_n 2, 1) := by decide +kernel
theorem dX5_wayUp_2 : decode cX5_wayUp 2 = .ok (.invokestatic 66, 3) := by decide +kernel
theorem dX5_wayUp_5 : decode cX5_wayUp 5 = .ok (.ifCond .ne 5, 3) := by decide +kernel
theorem dX5_wayUp_8 : decode cX5_wayUp 8 = .ok (.iconst (-1), 1) := by decide +kernel
theorem dX5_wayUp_9 : decode cX5_wayUp 9 = .ok (.ireturn, 1) := by decide +kernel
theorem dX5_wayUp_10 : decode cX5_wayUp 10 = .ok (.iload_n 3, 1) := by decide +kernel
theorem dX5_wayUp_11 : decode cX5_wayUp 11 = .ok (.iconst 0, 1) := by decide +kernel
theorem dX5_wayUp_12 : decode cX5_wayUp 12 = .ok (.iconst 1, 1) := by decide +kernel
theorem dX5_wayUp_13 : decode cX5_wayUp 13 = .ok (.invokestatic 32, 3) := by decide +kernel
theorem dX5_wayUp_16 : decode cX5_wayUp 16 = .ok (.ifCond .ne 6, 3) := by decide +kernel
theorem dX5_wayUp_19 : decode cX5_wayUp 19 = .ok (.bipush (-2), 2) := by decide +kernel
theorem dX5_wayUp_21 : decode cX5_wayUp 21 = .ok (.ireturn, 1) := by decide +kernel
theorem dX5_wayUp_22 : decode cX5_wayUp 22 = .ok (.iconst 0, 1) := by decide +kernel
theorem dX5_wayUp_23 : decode cX5_wayUp 23 = .ok (.istore 4, 2) := by decide +kernel
theorem dX5_wayUp_25 : decode cX5_wayUp 25 = .ok (.iload 4, 2) := by decide +kernel
theorem dX5_wayUp_27 : decode cX5_wayUp 27 = .ok (.bipush 6, 2) := by decide +kernel
theorem dX5_wayUp_29 : decode cX5_wayUp 29 = .ok (.if_icmp .ge 17, 3) := by decide +kernel
theorem dX5_wayUp_32 : decode cX5_wayUp 32 = .ok (.aload_n 0, 1) := by decide +kernel
theorem dX5_wayUp_33 : decode cX5_wayUp 33 = .ok (.getfield 26, 3) := by decide +kernel
theorem dX5_wayUp_36 : decode cX5_wayUp 36 = .ok (.iload 4, 2) := by decide +kernel
theorem dX5_wayUp_38 : decode cX5_wayUp 38 = .ok (.iconst 0, 1) := by decide +kernel
theorem dX5_wayUp_39 : decode cX5_wayUp 39 = .ok (.iastore, 1) := by decide +kernel
theorem dX5_wayUp_40 : decode cX5_wayUp 40 = .ok (.iinc 4 1, 3) := by decide +kernel
theorem dX5_wayUp_43 : decode cX5_wayUp 43 = .ok (.goto (-18), 3) := by decide +kernel
theorem dX5_wayUp_46 : decode cX5_wayUp 46 = .ok (.bipush 18, 2) := by decide +kernel
theorem dX5_wayUp_48 : decode cX5_wayUp 48 = .ok (.istore 4, 2) := by decide +kernel
theorem dX5_wayUp_50 : decode cX5_wayUp 50 = .ok (.iload 4, 2) := by decide +kernel
theorem dX5_wayUp_52 : decode cX5_wayUp 52 = .ok (.iload_n 2, 1) := by decide +kernel
theorem dX5_wayUp_53 : decode cX5_wayUp 53 = .ok (.if_icmp .lt 163, 3) := by decide +kernel
theorem dX5_wayUp_56 : decode cX5_wayUp 56 = .ok (.iconst 0, 1) := by decide +kernel
theorem dX5_wayUp_57 : decode cX5_wayUp 57 = .ok (.istore 5, 2) := by decide +kernel
theorem dX5_wayUp_59 : decode cX5_wayUp 59 = .ok (.iload 5, 2) := by decide +kernel
theorem dX5_wayUp_61 : decode cX5_wayUp 61 = .ok (.bipush 6, 2) := by decide +kernel
theorem dX5_wayUp_63 : decode cX5_wayUp 63 = .ok (.if_icmp .ge 117, 3) := by decide +kernel
theorem dX5_wayUp_66 : decode cX5_wayUp 66 = .ok (.bipush (-5), 2) := by decide +kernel
theorem dX5_wayUp_68 : decode cX5_wayUp 68 = .ok (.istore 6, 2) := by decide +kernel
theorem dX5_wayUp_70 : decode cX5_wayUp 70 = .ok (.iconst 0, 1) := by decide +kernel
theorem dX5_wayUp_71 : decode cX5_wayUp 71 = .ok (.istore 7, 2) := by decide +kernel
theorem dX5_wayUp_73 : decode cX5_wayUp 73 = .ok (.iload 7, 2) := by decide +kernel
theorem dX5_wayUp_75 : decode cX5_wayUp 75 = .ok (.iconst 3, 1) := by decide +kernel
theorem dX5_wayUp_76 : decode cX5_wayUp 76 = .ok (.if_icmp .ge 89, 3) := by decide +kernel
theorem dX5_wayUp_79 : decode cX5_wayUp 79 = .ok (.iload 5, 2) := by decide +kernel
theorem dX5_wayUp_81 : decode cX5_wayUp 81 = .ok (.iload 7, 2) := by decide +kernel
theorem dX5_wayUp_83 : decode cX5_wayUp 83 = .ok (.invokestatic 87, 3) := by decide +kernel
theorem dX5_wayUp_86 : decode cX5_wayUp 86 = .ok (.istore 8, 2) := by decide +kernel
theorem dX5_wayUp_88 : decode cX5_wayUp 88 = .ok (.iload 8, 2) := by decide +kernel
theorem dX5_wayUp_90 : decode cX5_wayUp 90 = .ok (.invokestatic 36, 3) := by decide +kernel
theorem dX5_wayUp_93 : decode cX5_wayUp 93 = .ok (.ifCond .eq 32, 3) := by decide +kernel
theorem dX5_wayUp_96 : decode cX5_wayUp 96 = .ok (.aload_n 0, 1) := by decide +kernel
theorem dX5_wayUp_97 : decode cX5_wayUp 97 = .ok (.getfield 26, 3) := by decide +kernel
theorem dX5_wayUp_100 : decode cX5_wayUp 100 = .ok (.iload 8, 2) := by decide +kernel
theorem dX5_wayUp_102 : decode cX5_wayUp 102 = .ok (.iaload, 1) := by decide +kernel
theorem dX5_wayUp_103 : decode cX5_wayUp 103 = .ok (.iconst 1, 1) := by decide +kernel
theorem dX5_wayUp_104 : decode cX5_wayUp 104 = .ok (.iadd, 1) := by decide +kernel
theorem dX5_wayUp_105 : decode cX5_wayUp 105 = .ok (.aload_n 0, 1) := by decide +kernel
theorem dX5_wayUp_106 : decode cX5_wayUp 106 = .ok (.getfield 7, 3) := by decide +kernel
theorem dX5_wayUp_109 : decode cX5_wayUp 109 = .ok (.iconst 0, 1) := by decide +kernel
theorem dX5_wayUp_110 : decode cX5_wayUp 110 = .ok (.iload 8, 2) := by decide +kernel
theorem dX5_wayUp_112 : decode cX5_wayUp 112 = .ok (.iload 4, 2) := by decide +kernel
theorem dX5_wayUp_114 : decode cX5_wayUp 114 = .ok (.iconst 1, 1) := by decide +kernel
theorem dX5_wayUp_115 : decode cX5_wayUp 115 = .ok (.iadd, 1) := by decide +kernel
theorem dX5_wayUp_116 : decode cX5_wayUp 116 = .ok (.invokestatic 70, 3) := by decide +kernel
theorem dX5_wayUp_119 : decode cX5_wayUp 119 = .ok (.iadd, 1) := by decide +kernel
theorem dX5_wayUp_120 : decode cX5_wayUp 120 = .ok (.iaload, 1) := by decide +kernel
theorem dX5_wayUp_121 : decode cX5_wayUp 121 = .ok (.iadd, 1) := by decide +kernel
theorem dX5_wayUp_122 : decode cX5_wayUp 122 = .ok (.goto 5, 3) := by decide +kernel
theorem dX5_wayUp_125 : decode cX5_wayUp 125 = .ok (.bipush (-5), 2) := by decide +kernel
theorem dX5_wayUp_127 : decode cX5_wayUp 127 = .ok (.istore 9, 2) := by decide +kernel
theorem dX5_wayUp_129 : decode cX5_wayUp 129 = .ok (.iload 9, 2) := by decide +kernel
theorem dX5_wayUp_131 : decode cX5_wayUp 131 = .ok (.bipush (-5), 2) := by decide +kernel
theorem dX5_wayUp_133 : decode cX5_wayUp 133 = .ok (.if_icmp .eq 22, 3) := by decide +kernel
theorem dX5_wayUp_136 : decode cX5_wayUp 136 = .ok (.iload 6, 2) := by decide +kernel
theorem dX5_wayUp_138 : decode cX5_wayUp 138 = .ok (.bipush (-5), 2) := by decide +kernel
theorem dX5_wayUp_140 : decode cX5_wayUp 140 = .ok (.if_icmp .eq 10, 3) := by decide +kernel
theorem dX5_wayUp_143 : decode cX5_wayUp 143 = .ok (.iload 9, 2) := by decide +kernel
theorem dX5_wayUp_145 : decode cX5_wayUp 145 = .ok (.iload 6, 2) := by decide +kernel
theorem dX5_wayUp_147 : decode cX5_wayUp 147 = .ok (.if_icmp .ge 8, 3) := by decide +kernel
theorem dX5_wayUp_150 : decode cX5_wayUp 150 = .ok (.iload 9, 2) := by decide +kernel
theorem dX5_wayUp_152 : decode cX5_wayUp 152 = .ok (.goto 5, 3) := by decide +kernel
theorem dX5_wayUp_155 : decode cX5_wayUp 155 = .ok (.iload 6, 2) := by decide +kernel
theorem dX5_wayUp_157 : decode cX5_wayUp 157 = .ok (.istore 6, 2) := by decide +kernel
theorem dX5_wayUp_159 : decode cX5_wayUp 159 = .ok (.iinc 7 1, 3) := by decide +kernel
theorem dX5_wayUp_162 : decode cX5_wayUp 162 = .ok (.goto (-89), 3) := by decide +kernel
theorem dX5_wayUp_165 : decode cX5_wayUp 165 = .ok (.aload_n 0, 1) := by decide +kernel
theorem dX5_wayUp_166 : decode cX5_wayUp 166 = .ok (.getfield 29, 3) := by decide +kernel
theorem dX5_wayUp_169 : decode cX5_wayUp 169 = .ok (.iload 5, 2) := by decide +kernel
theorem dX5_wayUp_171 : decode cX5_wayUp 171 = .ok (.iload 6, 2) := by decide +kernel
theorem dX5_wayUp_173 : decode cX5_wayUp 173 = .ok (.iastore, 1) := by decide +kernel
theorem dX5_wayUp_174 : decode cX5_wayUp 174 = .ok (.iinc 5 1, 3) := by decide +kernel
theorem dX5_wayUp_177 : decode cX5_wayUp 177 = .ok (.goto (-118), 3) := by decide +kernel
theorem dX5_wayUp_180 : decode cX5_wayUp 180 = .ok (.iconst 0, 1) := by decide +kernel
theorem dX5_wayUp_181 : decode cX5_wayUp 181 = .ok (.istore 5, 2) := by decide +kernel
theorem dX5_wayUp_183 : decode cX5_wayUp 183 = .ok (.iload 5, 2) := by decide +kernel
theorem dX5_wayUp_185 : decode cX5_wayUp 185 = .ok (.bipush 6, 2) := by decide +kernel
theorem dX5_wayUp_187 : decode cX5_wayUp 187 = .ok (.if_icmp .ge 23, 3) := by decide +kernel
theorem dX5_wayUp_190 : decode cX5_wayUp 190 = .ok (.aload_n 0, 1) := by decide +kernel
theorem dX5_wayUp_191 : decode cX5_wayUp 191 = .ok (.getfield 26, 3) := by decide +kernel
theorem dX5_wayUp_194 : decode cX5_wayUp 194 = .ok (.iload 5, 2) := by decide +kernel
theorem dX5_wayUp_196 : decode cX5_wayUp 196 = .ok (.aload_n 0, 1) := by decide +kernel
theorem dX5_wayUp_197 : decode cX5_wayUp 197 = .ok (.getfield 29, 3) := by decide +kernel
theorem dX5_wayUp_200 : decode cX5_wayUp 200 = .ok (.iload 5, 2) := by decide +kernel
theorem dX5_wayUp_202 : decode cX5_wayUp 202 = .ok (.iaload, 1) := by decide +kernel
theorem dX5_wayUp_203 : decode cX5_wayUp 203 = .ok (.iastore, 1) := by decide +kernel
theorem dX5_wayUp_204 : decode cX5_wayUp 204 = .ok (.iinc 5 1, 3) := by decide +kernel
theorem dX5_wayUp_207 : decode cX5_wayUp 207 = .ok (.goto (-24), 3) := by decide +kernel
theorem dX5_wayUp_210 : decode cX5_wayUp 210 = .ok (.iinc 4 (-1), 3) := by decide +kernel
theorem dX5_wayUp_213 : decode cX5_wayUp 213 = .ok (.goto (-163), 3) := by decide +kernel
theorem dX5_wayUp_216 : decode cX5_wayUp 216 = .ok (.aload_n 0, 1) := by decide +kernel
theorem dX5_wayUp_217 : decode cX5_wayUp 217 = .ok (.getfield 26, 3) := by decide +kernel
theorem dX5_wayUp_220 : decode cX5_wayUp 220 = .ok (.iload_n 1, 1) := by decide +kernel
theorem dX5_wayUp_221 : decode cX5_wayUp 221 = .ok (.iaload, 1) := by decide +kernel
theorem dX5_wayUp_222 : decode cX5_wayUp 222 = .ok (.ireturn, 1) := by decide +kernel
theorem dX5_leader_0 : decode cX5_leader 0 = .ok (.bipush (-5), 2) := by decide +kernel
theorem dX5_leader_2 : decode cX5_leader 2 = .ok (.istore_n 1, 1) := by decide +kernel
theorem dX5_leader_3 : decode cX5_leader 3 = .ok (.iconst 0, 1) := by decide +kernel
theorem dX5_leader_4 : decode cX5_leader 4 = .ok (.istore_n 2, 1) := by decide +kernel
theorem dX5_leader_5 : decode cX5_leader 5 = .ok (.iload_n 2, 1) := by decide +kernel
theorem dX5_leader_6 : decode cX5_leader 6 = .ok (.aload_n 0, 1) := by decide +kernel
theorem dX5_leader_7 : decode cX5_leader 7 = .ok (.getfield 7, 3) := by decide +kernel
theorem dX5_leader_10 : decode cX5_leader 10 = .ok (.sipush 535, 3) := by decide +kernel
theorem dX5_leader_13 : decode cX5_leader 13 = .ok (.iaload, 1) := by decide +kernel
theorem dX5_leader_14 : decode cX5_leader 14 = .ok (.if_icmp .ge 101, 3) := by decide +kernel
theorem dX5_leader_17 : decode cX5_leader 17 = .ok (.iload_n 1, 1) := by decide +kernel
theorem dX5_leader_18 : decode cX5_leader 18 = .ok (.bipush (-5), 2) := by decide +kernel
theorem dX5_leader_20 : decode cX5_leader 20 = .ok (.if_icmp .ne 7, 3) := by decide +kernel
theorem dX5_leader_23 : decode cX5_leader 23 = .ok (.iconst 1, 1) := by decide +kernel
theorem dX5_leader_24 : decode cX5_leader 24 = .ok (.goto 24, 3) := by decide +kernel
theorem dX5_leader_27 : decode cX5_leader 27 = .ok (.aload_n 0, 1) := by decide +kernel
theorem dX5_leader_28 : decode cX5_leader 28 = .ok (.getfield 7, 3) := by decide +kernel
theorem dX5_leader_31 : decode cX5_leader 31 = .ok (.iload_n 2, 1) := by decide +kernel
theorem dX5_leader_32 : decode cX5_leader 32 = .ok (.iconst 1, 1) := by decide +kernel
theorem dX5_leader_33 : decode cX5_leader 33 = .ok (.invokestatic 40, 3) := by decide +kernel
theorem dX5_leader_36 : decode cX5_leader 36 = .ok (.iaload, 1) := by decide +kernel
theorem dX5_leader_37 : decode cX5_leader 37 = .ok (.aload_n 0, 1) := by decide +kernel
theorem dX5_leader_38 : decode cX5_leader 38 = .ok (.getfield 7, 3) := by decide +kernel
theorem dX5_leader_41 : decode cX5_leader 41 = .ok (.iload_n 1, 1) := by decide +kernel
theorem dX5_leader_42 : decode cX5_leader 42 = .ok (.iconst 1, 1) := by decide +kernel
theorem dX5_leader_43 : decode cX5_leader 43 = .ok (.invokestatic 40, 3) := by decide +kernel
theorem dX5_leader_46 : decode cX5_leader 46 = .ok (.iaload, 1) := by decide +kernel
theorem dX5_leader_47 : decode cX5_leader 47 = .ok (.isub, 1) := by decide +kernel
theorem dX5_leader_48 : decode cX5_leader 48 = .ok (.istore_n 3, 1) := by decide +kernel
theorem dX5_leader_49 : decode cX5_leader 49 = .ok (.iload_n 1, 1) := by decide +kernel
theorem dX5_leader_50 : decode cX5_leader 50 = .ok (.bipush (-5), 2) := by decide +kernel
theorem dX5_leader_52 : decode cX5_leader 52 = .ok (.if_icmp .ne 7, 3) := by decide +kernel
theorem dX5_leader_55 : decode cX5_leader 55 = .ok (.iconst 1, 1) := by decide +kernel
theorem dX5_leader_56 : decode cX5_leader 56 = .ok (.goto 24, 3) := by decide +kernel
theorem dX5_leader_59 : decode cX5_leader 59 = .ok (.aload_n 0, 1) := by decide +kernel
theorem dX5_leader_60 : decode cX5_leader 60 = .ok (.getfield 7, 3) := by decide +kernel
theorem dX5_leader_63 : decode cX5_leader 63 = .ok (.iload_n 2, 1) := by decide +kernel
theorem dX5_leader_64 : decode cX5_leader 64 = .ok (.iconst 2, 1) := by decide +kernel
theorem dX5_leader_65 : decode cX5_leader 65 = .ok (.invokestatic 40, 3) := by decide +kernel
theorem dX5_leader_68 : decode cX5_leader 68 = .ok (.iaload, 1) := by decide +kernel
theorem dX5_leader_69 : decode cX5_leader 69 = .ok (.aload_n 0, 1) := by decide +kernel
theorem dX5_leader_70 : decode cX5_leader 70 = .ok (.getfield 7, 3) := by decide +kernel
theorem dX5_leader_73 : decode cX5_leader 73 = .ok (.iload_n 1, 1) := by decide +kernel
theorem dX5_leader_74 : decode cX5_leader 74 = .ok (.iconst 2, 1) := by decide +kernel
theorem dX5_leader_75 : decode cX5_leader 75 = .ok (.invokestatic 40, 3) := by decide +kernel
theorem dX5_leader_78 : decode cX5_leader 78 = .ok (.iaload, 1) := by decide +kernel
theorem dX5_leader_79 : decode cX5_leader 79 = .ok (.isub, 1) := by decide +kernel
theorem dX5_leader_80 : decode cX5_leader 80 = .ok (.istore 4, 2) := by decide +kernel
theorem dX5_leader_82 : decode cX5_leader 82 = .ok (.aload_n 0, 1) := by decide +kernel
theorem dX5_leader_83 : decode cX5_leader 83 = .ok (.iload_n 2, 1) := by decide +kernel
theorem dX5_leader_84 : decode cX5_leader 84 = .ok (.invokevirtual 48, 3) := by decide +kernel
theorem dX5_leader_87 : decode cX5_leader 87 = .ok (.ifCond .eq 20, 3) := by decide +kernel
theorem dX5_leader_90 : decode cX5_leader 90 = .ok (.iload_n 3, 1) := by decide +kernel
theorem dX5_leader_91 : decode cX5_leader 91 = .ok (.ifCond .gt 12, 3) := by decide +kernel
theorem dX5_leader_94 : decode cX5_leader 94 = .ok (.iload_n 3, 1) := by decide +kernel
theorem dX5_leader_95 : decode cX5_leader 95 = .ok (.ifCond .ne 12, 3) := by decide +kernel
theorem dX5_leader_98 : decode cX5_leader 98 = .ok (.iload 4, 2) := by decide +kernel
theorem dX5_leader_100 : decode cX5_leader 100 = .ok (.ifCond .le 7, 3) := by decide +kernel
theorem dX5_leader_103 : decode cX5_leader 103 = .ok (.iload_n 2, 1) := by decide +kernel
theorem dX5_leader_104 : decode cX5_leader 104 = .ok (.goto 4, 3) := by decide +kernel
theorem dX5_leader_107 : decode cX5_leader 107 = .ok (.iload_n 1, 1) := by decide +kernel
theorem dX5_leader_108 : decode cX5_leader 108 = .ok (.istore_n 1, 1) := by decide +kernel
theorem dX5_leader_109 : decode cX5_leader 109 = .ok (.iinc 2 1, 3) := by decide +kernel
theorem dX5_leader_112 : decode cX5_leader 112 = .ok (.goto (-107), 3) := by decide +kernel
theorem dX5_leader_115 : decode cX5_leader 115 = .ok (.iload_n 1, 1) := by decide +kernel
theorem dX5_leader_116 : decode cX5_leader 116 = .ok (.ireturn, 1) := by decide +kernel
theorem dX5_owes_0 : decode cX5_owes 0 = .ok (.aload_n 0, 1) := by decide +kernel
theorem dX5_owes_1 : decode cX5_owes 1 = .ok (.iload_n 1, 1) := by decide +kernel
theorem dX5_owes_2 : decode cX5_owes 2 = .ok (.invokevirtual 63, 3) := by decide +kernel
theorem dX5_owes_5 : decode cX5_owes 5 = .ok (.ifCond .eq 11, 3) := by decide +kernel
theorem dX5_owes_8 : decode cX5_owes 8 = .ok (.aload_n 0, 1) := by decide +kernel
theorem dX5_owes_9 : decode cX5_owes 9 = .ok (.iload_n 2, 1) := by decide +kernel
theorem dX5_owes_10 : decode cX5_owes 10 = .ok (.invokevirtual 63, 3) := by decide +kernel
theorem dX5_owes_13 : decode cX5_owes 13 = .ok (.ifCond .ne 7, 3) := by decide +kernel
theorem dX5_owes_16 : decode cX5_owes 16 = .ok (.iconst (-1), 1) := by decide +kernel
theorem dX5_owes_17 : decode cX5_owes 17 = .ok (.goto 28, 3) := by decide +kernel
theorem dX5_owes_20 : decode cX5_owes 20 = .ok (.iload_n 1, 1) := by decide +kernel
theorem dX5_owes_21 : decode cX5_owes 21 = .ok (.iload_n 2, 1) := by decide +kernel
theorem dX5_owes_22 : decode cX5_owes 22 = .ok (.if_icmp .ne 8, 3) := by decide +kernel
theorem dX5_owes_25 : decode cX5_owes 25 = .ok (.bipush (-2), 2) := by decide +kernel
theorem dX5_owes_27 : decode cX5_owes 27 = .ok (.goto 18, 3) := by decide +kernel
theorem dX5_owes_30 : decode cX5_owes 30 = .ok (.aload_n 0, 1) := by decide +kernel
theorem dX5_owes_31 : decode cX5_owes 31 = .ok (.getfield 7, 3) := by decide +kernel
theorem dX5_owes_34 : decode cX5_owes 34 = .ok (.sipush 450, 3) := by decide +kernel
theorem dX5_owes_37 : decode cX5_owes 37 = .ok (.bipush 9, 2) := by decide +kernel
theorem dX5_owes_39 : decode cX5_owes 39 = .ok (.iload_n 1, 1) := by decide +kernel
theorem dX5_owes_40 : decode cX5_owes 40 = .ok (.imul, 1) := by decide +kernel
theorem dX5_owes_41 : decode cX5_owes 41 = .ok (.iadd, 1) := by decide +kernel
theorem dX5_owes_42 : decode cX5_owes 42 = .ok (.iload_n 2, 1) := by decide +kernel
theorem dX5_owes_43 : decode cX5_owes 43 = .ok (.iadd, 1) := by decide +kernel
theorem dX5_owes_44 : decode cX5_owes 44 = .ok (.iaload, 1) := by decide +kernel
theorem dX5_owes_45 : decode cX5_owes 45 = .ok (.ireturn, 1) := by decide +kernel
theorem dX5_bestLane_0 : decode cX5_bestLane 0 = .ok (.iload_n 1, 1) := by decide +kernel
theorem dX5_bestLane_1 : decode cX5_bestLane 1 = .ok (.iconst 0, 1) := by decide +kernel
theorem dX5_bestLane_2 : decode cX5_bestLane 2 = .ok (.bipush 99, 2) := by decide +kernel
theorem dX5_bestLane_4 : decode cX5_bestLane 4 = .ok (.invokestatic 32, 3) := by decide +kernel
theorem dX5_bestLane_7 : decode cX5_bestLane 7 = .ok (.ifCond .eq 12, 3) := by decide +kernel
theorem dX5_bestLane_10 : decode cX5_bestLane 10 = .ok (.iload_n 2, 1) := by decide +kernel
theorem dX5_bestLane_11 : decode cX5_bestLane 11 = .ok (.iconst 0, 1) := by decide +kernel
theorem dX5_bestLane_12 : decode cX5_bestLane 12 = .ok (.iconst 1, 1) := by decide +kernel
theorem dX5_bestLane_13 : decode cX5_bestLane 13 = .ok (.invokestatic 32, 3) := by decide +kernel
theorem dX5_bestLane_16 : decode cX5_bestLane 16 = .ok (.ifCond .ne 6, 3) := by decide +kernel
theorem dX5_bestLane_19 : decode cX5_bestLane 19 = .ok (.bipush (-2), 2) := by decide +kernel
theorem dX5_bestLane_21 : decode cX5_bestLane 21 = .ok (.ireturn, 1) := by decide +kernel
theorem dX5_bestLane_22 : decode cX5_bestLane 22 = .ok (.bipush (-5), 2) := by decide +kernel
theorem dX5_bestLane_24 : decode cX5_bestLane 24 = .ok (.istore_n 3, 1) := by decide +kernel
theorem dX5_bestLane_25 : decode cX5_bestLane 25 = .ok (.bipush (-5), 2) := by decide +kernel
theorem dX5_bestLane_27 : decode cX5_bestLane 27 = .ok (.istore 4, 2) := by decide +kernel
theorem dX5_bestLane_29 : decode cX5_bestLane 29 = .ok (.iconst 0, 1) := by decide +kernel
theorem dX5_bestLane_30 : decode cX5_bestLane 30 = .ok (.istore 5, 2) := by decide +kernel
theorem dX5_bestLane_32 : decode cX5_bestLane 32 = .ok (.iload 5, 2) := by decide +kernel
theorem dX5_bestLane_34 : decode cX5_bestLane 34 = .ok (.bipush 6, 2) := by decide +kernel
theorem dX5_bestLane_36 : decode cX5_bestLane 36 = .ok (.if_icmp .ge 69, 3) := by decide +kernel
theorem dX5_bestLane_39 : decode cX5_bestLane 39 = .ok (.aload_n 0, 1) := by decide +kernel
theorem dX5_bestLane_40 : decode cX5_bestLane 40 = .ok (.iload 5, 2) := by decide +kernel
theorem dX5_bestLane_42 : decode cX5_bestLane 42 = .ok (.iconst 0, 1) := by decide +kernel
theorem dX5_bestLane_43 : decode cX5_bestLane 43 = .ok (.invokevirtual 51, 3) := by decide +kernel
theorem dX5_bestLane_46 : decode cX5_bestLane 46 = .ok (.bipush (-5), 2) := by decide +kernel
theorem dX5_bestLane_48 : decode cX5_bestLane 48 = .ok (.if_icmp .ne 51, 3) := by decide +kernel
theorem dX5_bestLane_51 : decode cX5_bestLane 51 = .ok (.aload_n 0, 1) := by decide +kernel
theorem dX5_bestLane_52 : decode cX5_bestLane 52 = .ok (.invokevirtual 152, 3) := by decide +kernel
theorem dX5_bestLane_55 : decode cX5_bestLane 55 = .ok (.aload_n 0, 1) := by decide +kernel
theorem dX5_bestLane_56 : decode cX5_bestLane 56 = .ok (.aload_n 0, 1) := by decide +kernel
theorem dX5_bestLane_57 : decode cX5_bestLane 57 = .ok (.iload 5, 2) := by decide +kernel
theorem dX5_bestLane_59 : decode cX5_bestLane 59 = .ok (.iload_n 1, 1) := by decide +kernel
theorem dX5_bestLane_60 : decode cX5_bestLane 60 = .ok (.invokevirtual 60, 3) := by decide +kernel
theorem dX5_bestLane_63 : decode cX5_bestLane 63 = .ok (.invokevirtual 173, 3) := by decide +kernel
theorem dX5_bestLane_66 : decode cX5_bestLane 66 = .ok (.istore 6, 2) := by decide +kernel
theorem dX5_bestLane_68 : decode cX5_bestLane 68 = .ok (.aload_n 0, 1) := by decide +kernel
theorem dX5_bestLane_69 : decode cX5_bestLane 69 = .ok (.invokevirtual 158, 3) := by decide +kernel
theorem dX5_bestLane_72 : decode cX5_bestLane 72 = .ok (.iload 6, 2) := by decide +kernel
theorem dX5_bestLane_74 : decode cX5_bestLane 74 = .ok (.bipush (-5), 2) := by decide +kernel
theorem dX5_bestLane_76 : decode cX5_bestLane 76 = .ok (.if_icmp .eq 23, 3) := by decide +kernel
theorem dX5_bestLane_79 : decode cX5_bestLane 79 = .ok (.iload_n 3, 1) := by decide +kernel
theorem dX5_bestLane_80 : decode cX5_bestLane 80 = .ok (.bipush (-5), 2) := by decide +kernel
theorem dX5_bestLane_82 : decode cX5_bestLane 82 = .ok (.if_icmp .eq 10, 3) := by decide +kernel
theorem dX5_bestLane_85 : decode cX5_bestLane 85 = .ok (.iload 6, 2) := by decide +kernel
theorem dX5_bestLane_87 : decode cX5_bestLane 87 = .ok (.iload 4, 2) := by decide +kernel
theorem dX5_bestLane_89 : decode cX5_bestLane 89 = .ok (.if_icmp .ge 10, 3) := by decide +kernel
theorem dX5_bestLane_92 : decode cX5_bestLane 92 = .ok (.iload 5, 2) := by decide +kernel
theorem dX5_bestLane_94 : decode cX5_bestLane 94 = .ok (.istore_n 3, 1) := by decide +kernel
theorem dX5_bestLane_95 : decode cX5_bestLane 95 = .ok (.iload 6, 2) := by decide +kernel
theorem dX5_bestLane_97 : decode cX5_bestLane 97 = .ok (.istore 4, 2) := by decide +kernel
theorem dX5_bestLane_99 : decode cX5_bestLane 99 = .ok (.iinc 5 1, 3) := by decide +kernel
theorem dX5_bestLane_102 : decode cX5_bestLane 102 = .ok (.goto (-70), 3) := by decide +kernel
theorem dX5_bestLane_105 : decode cX5_bestLane 105 = .ok (.iload_n 2, 1) := by decide +kernel
theorem dX5_bestLane_106 : decode cX5_bestLane 106 = .ok (.ifCond .ne 7, 3) := by decide +kernel
theorem dX5_bestLane_109 : decode cX5_bestLane 109 = .ok (.iload_n 3, 1) := by decide +kernel
theorem dX5_bestLane_110 : decode cX5_bestLane 110 = .ok (.goto 5, 3) := by decide +kernel
theorem dX5_bestLane_113 : decode cX5_bestLane 113 = .ok (.iload 4, 2) := by decide +kernel
theorem dX5_bestLane_115 : decode cX5_bestLane 115 = .ok (.ireturn, 1) := by decide +kernel
theorem dX5_inState_0 : decode cX5_inState 0 = .ok (.iconst 0, 1) := by decide +kernel
theorem dX5_inState_1 : decode cX5_inState 1 = .ok (.istore_n 2, 1) := by decide +kernel
theorem dX5_inState_2 : decode cX5_inState 2 = .ok (.iconst 0, 1) := by decide +kernel
theorem dX5_inState_3 : decode cX5_inState 3 = .ok (.istore_n 3, 1) := by decide +kernel
theorem dX5_inState_4 : decode cX5_inState 4 = .ok (.iload_n 3, 1) := by decide +kernel
theorem dX5_inState_5 : decode cX5_inState 5 = .ok (.aload_n 0, 1) := by decide +kernel
theorem dX5_inState_6 : decode cX5_inState 6 = .ok (.getfield 7, 3) := by decide +kernel
theorem dX5_inState_9 : decode cX5_inState 9 = .ok (.sipush 535, 3) := by decide +kernel
theorem dX5_inState_12 : decode cX5_inState 12 = .ok (.iaload, 1) := by decide +kernel
theorem dX5_inState_13 : decode cX5_inState 13 = .ok (.if_icmp .ge 31, 3) := by decide +kernel
theorem dX5_inState_16 : decode cX5_inState 16 = .ok (.iload_n 2, 1) := by decide +kernel
theorem dX5_inState_17 : decode cX5_inState 17 = .ok (.aload_n 0, 1) := by decide +kernel
theorem dX5_inState_18 : decode cX5_inState 18 = .ok (.getfield 7, 3) := by decide +kernel
theorem dX5_inState_21 : decode cX5_inState 21 = .ok (.iload_n 3, 1) := by decide +kernel
theorem dX5_inState_22 : decode cX5_inState 22 = .ok (.iconst 3, 1) := by decide +kernel
theorem dX5_inState_23 : decode cX5_inState 23 = .ok (.invokestatic 40, 3) := by decide +kernel
theorem dX5_inState_26 : decode cX5_inState 26 = .ok (.iaload, 1) := by decide +kernel
theorem dX5_inState_27 : decode cX5_inState 27 = .ok (.iload_n 1, 1) := by decide +kernel
theorem dX5_inState_28 : decode cX5_inState 28 = .ok (.if_icmp .ne 7, 3) := by decide +kernel
theorem dX5_inState_31 : decode cX5_inState 31 = .ok (.iconst 1, 1) := by decide +kernel
theorem dX5_inState_32 : decode cX5_inState 32 = .ok (.goto 4, 3) := by decide +kernel
theorem dX5_inState_35 : decode cX5_inState 35 = .ok (.iconst 0, 1) := by decide +kernel
theorem dX5_inState_36 : decode cX5_inState 36 = .ok (.iadd, 1) := by decide +kernel
theorem dX5_inState_37 : decode cX5_inState 37 = .ok (.istore_n 2, 1) := by decide +kernel
theorem dX5_inState_38 : decode cX5_inState 38 = .ok (.iinc 3 1, 3) := by decide +kernel
theorem dX5_inState_41 : decode cX5_inState 41 = .ok (.goto (-37), 3) := by decide +kernel
theorem dX5_inState_44 : decode cX5_inState 44 = .ok (.iload_n 2, 1) := by decide +kernel
theorem dX5_inState_45 : decode cX5_inState 45 = .ok (.ireturn, 1) := by decide +kernel
theorem dX5_ofAll_0 : decode cX5_ofAll 0 = .ok (.iconst 0, 1) := by decide +kernel
theorem dX5_ofAll_1 : decode cX5_ofAll 1 = .ok (.istore_n 2, 1) := by decide +kernel
theorem dX5_ofAll_2 : decode cX5_ofAll 2 = .ok (.iconst 0, 1) := by decide +kernel
theorem dX5_ofAll_3 : decode cX5_ofAll 3 = .ok (.istore_n 3, 1) := by decide +kernel
theorem dX5_ofAll_4 : decode cX5_ofAll 4 = .ok (.iload_n 3, 1) := by decide +kernel
theorem dX5_ofAll_5 : decode cX5_ofAll 5 = .ok (.aload_n 0, 1) := by decide +kernel
theorem dX5_ofAll_6 : decode cX5_ofAll 6 = .ok (.getfield 7, 3) := by decide +kernel
theorem dX5_ofAll_9 : decode cX5_ofAll 9 = .ok (.sipush 535, 3) := by decide +kernel
theorem dX5_ofAll_12 : decode cX5_ofAll 12 = .ok (.iaload, 1) := by decide +kernel
theorem dX5_ofAll_13 : decode cX5_ofAll 13 = .ok (.if_icmp .ge 22, 3) := by decide +kernel
theorem dX5_ofAll_16 : decode cX5_ofAll 16 = .ok (.iload_n 2, 1) := by decide +kernel
theorem dX5_ofAll_17 : decode cX5_ofAll 17 = .ok (.aload_n 0, 1) := by decide +kernel
theorem dX5_ofAll_18 : decode cX5_ofAll 18 = .ok (.getfield 7, 3) := by decide +kernel
theorem dX5_ofAll_21 : decode cX5_ofAll 21 = .ok (.iload_n 3, 1) := by decide +kernel
theorem dX5_ofAll_22 : decode cX5_ofAll 22 = .ok (.iload_n 1, 1) := by decide +kernel
theorem dX5_ofAll_23 : decode cX5_ofAll 23 = .ok (.invokestatic 40, 3) := by decide +kernel
theorem dX5_ofAll_26 : decode cX5_ofAll 26 = .ok (.iaload, 1) := by decide +kernel
theorem dX5_ofAll_27 : decode cX5_ofAll 27 = .ok (.iadd, 1) := by decide +kernel
theorem dX5_ofAll_28 : decode cX5_ofAll 28 = .ok (.istore_n 2, 1) := by decide +kernel
theorem dX5_ofAll_29 : decode cX5_ofAll 29 = .ok (.iinc 3 1, 3) := by decide +kernel
theorem dX5_ofAll_32 : decode cX5_ofAll 32 = .ok (.goto (-28), 3) := by decide +kernel
theorem dX5_ofAll_35 : decode cX5_ofAll 35 = .ok (.iload_n 2, 1) := by decide +kernel
theorem dX5_ofAll_36 : decode cX5_ofAll 36 = .ok (.ireturn, 1) := by decide +kernel
theorem dX5_trails_0 : decode cX5_trails 0 = .ok (.iconst 0, 1) := by decide +kernel
theorem dX5_trails_1 : decode cX5_trails 1 = .ok (.istore_n 1, 1) := by decide +kernel
theorem dX5_trails_2 : decode cX5_trails 2 = .ok (.iconst 0, 1) := by decide +kernel
theorem dX5_trails_3 : decode cX5_trails 3 = .ok (.istore_n 2, 1) := by decide +kernel
theorem dX5_trails_4 : decode cX5_trails 4 = .ok (.iload_n 2, 1) := by decide +kernel
theorem dX5_trails_5 : decode cX5_trails 5 = .ok (.bipush 120, 2) := by decide +kernel
theorem dX5_trails_7 : decode cX5_trails 7 = .ok (.if_icmp .ge 29, 3) := by decide +kernel
theorem dX5_trails_10 : decode cX5_trails 10 = .ok (.iload_n 1, 1) := by decide +kernel
theorem dX5_trails_11 : decode cX5_trails 11 = .ok (.aload_n 0, 1) := by decide +kernel
theorem dX5_trails_12 : decode cX5_trails 12 = .ok (.getfield 7, 3) := by decide +kernel
theorem dX5_trails_15 : decode cX5_trails 15 = .ok (.bipush 120, 2) := by decide +kernel
theorem dX5_trails_17 : decode cX5_trails 17 = .ok (.iload_n 2, 1) := by decide +kernel
theorem dX5_trails_18 : decode cX5_trails 18 = .ok (.iadd, 1) := by decide +kernel
theorem dX5_trails_19 : decode cX5_trails 19 = .ok (.iaload, 1) := by decide +kernel
theorem dX5_trails_20 : decode cX5_trails 20 = .ok (.ifCond .le 7, 3) := by decide +kernel
theorem dX5_trails_23 : decode cX5_trails 23 = .ok (.iconst 1, 1) := by decide +kernel
theorem dX5_trails_24 : decode cX5_trails 24 = .ok (.goto 4, 3) := by decide +kernel
theorem dX5_trails_27 : decode cX5_trails 27 = .ok (.iconst 0, 1) := by decide +kernel
theorem dX5_trails_28 : decode cX5_trails 28 = .ok (.iadd, 1) := by decide +kernel
theorem dX5_trails_29 : decode cX5_trails 29 = .ok (.istore_n 1, 1) := by decide +kernel
theorem dX5_trails_30 : decode cX5_trails 30 = .ok (.iinc 2 1, 3) := by decide +kernel
theorem dX5_trails_33 : decode cX5_trails 33 = .ok (.goto (-29), 3) := by decide +kernel
theorem dX5_trails_36 : decode cX5_trails 36 = .ok (.iload_n 1, 1) := by decide +kernel
theorem dX5_trails_37 : decode cX5_trails 37 = .ok (.ireturn, 1) := by decide +kernel
theorem dX5_frost_0 : decode cX5_frost 0 = .ok (.iconst 0, 1) := by decide +kernel
theorem dX5_frost_1 : decode cX5_frost 1 = .ok (.istore_n 1, 1) := by decide +kernel
theorem dX5_frost_2 : decode cX5_frost 2 = .ok (.iconst 0, 1) := by decide +kernel
theorem dX5_frost_3 : decode cX5_frost 3 = .ok (.istore_n 2, 1) := by decide +kernel
theorem dX5_frost_4 : decode cX5_frost 4 = .ok (.iload_n 2, 1) := by decide +kernel
theorem dX5_frost_5 : decode cX5_frost 5 = .ok (.bipush 120, 2) := by decide +kernel
theorem dX5_frost_7 : decode cX5_frost 7 = .ok (.if_icmp .ge 20, 3) := by decide +kernel
theorem dX5_frost_10 : decode cX5_frost 10 = .ok (.iload_n 1, 1) := by decide +kernel
theorem dX5_frost_11 : decode cX5_frost 11 = .ok (.aload_n 0, 1) := by decide +kernel
theorem dX5_frost_12 : decode cX5_frost 12 = .ok (.getfield 7, 3) := by decide +kernel
theorem dX5_frost_15 : decode cX5_frost 15 = .ok (.iconst 0, 1) := by decide +kernel
theorem dX5_frost_16 : decode cX5_frost 16 = .ok (.iload_n 2, 1) := by decide +kernel
theorem dX5_frost_17 : decode cX5_frost 17 = .ok (.iadd, 1) := by decide +kernel
theorem dX5_frost_18 : decode cX5_frost 18 = .ok (.iaload, 1) := by decide +kernel
theorem dX5_frost_19 : decode cX5_frost 19 = .ok (.iadd, 1) := by decide +kernel
theorem dX5_frost_20 : decode cX5_frost 20 = .ok (.istore_n 1, 1) := by decide +kernel
theorem dX5_frost_21 : decode cX5_frost 21 = .ok (.iinc 2 1, 3) := by decide +kernel
theorem dX5_frost_24 : decode cX5_frost 24 = .ok (.goto (-20), 3) := by decide +kernel
theorem dX5_frost_27 : decode cX5_frost 27 = .ok (.iload_n 1, 1) := by decide +kernel
theorem dX5_frost_28 : decode cX5_frost 28 = .ok (.ireturn, 1) := by decide +kernel
theorem dX5_count_0 : decode cX5_count 0 = .ok (.iload_n 1, 1) := by decide +kernel
theorem dX5_count_1 : decode cX5_count 1 = .ok (.tableswitch 155 0 14 #[75, 84, 93, 93, 101, 106, 111, 117, 124, 131, 131, 131, 131, 145, 150], 75) := by decide +kernel
theorem dX5_count_76 : decode cX5_count 76 = .ok (.aload_n 0, 1) := by decide +kernel
theorem dX5_count_77 : decode cX5_count 77 = .ok (.getfield 7, 3) := by decide +kernel
theorem dX5_count_80 : decode cX5_count 80 = .ok (.sipush 536, 3) := by decide +kernel
theorem dX5_count_83 : decode cX5_count 83 = .ok (.iaload, 1) := by decide +kernel
theorem dX5_count_84 : decode cX5_count 84 = .ok (.ireturn, 1) := by decide +kernel
theorem dX5_count_85 : decode cX5_count 85 = .ok (.aload_n 0, 1) := by decide +kernel
theorem dX5_count_86 : decode cX5_count 86 = .ok (.getfield 7, 3) := by decide +kernel
theorem dX5_count_89 : decode cX5_count 89 = .ok (.sipush 535, 3) := by decide +kernel
theorem dX5_count_92 : decode cX5_count 92 = .ok (.iaload, 1) := by decide +kernel
theorem dX5_count_93 : decode cX5_count 93 = .ok (.ireturn, 1) := by decide +kernel
theorem dX5_count_94 : decode cX5_count 94 = .ok (.aload_n 0, 1) := by decide +kernel
theorem dX5_count_95 : decode cX5_count 95 = .ok (.iload_n 1, 1) := by decide +kernel
theorem dX5_count_96 : decode cX5_count 96 = .ok (.iconst 2, 1) := by decide +kernel
theorem dX5_count_97 : decode cX5_count 97 = .ok (.isub, 1) := by decide +kernel
theorem dX5_count_98 : decode cX5_count 98 = .ok (.invokevirtual 176, 3) := by decide +kernel
theorem dX5_count_101 : decode cX5_count 101 = .ok (.ireturn, 1) := by decide +kernel
theorem dX5_count_102 : decode cX5_count 102 = .ok (.aload_n 0, 1) := by decide +kernel
theorem dX5_count_103 : decode cX5_count 103 = .ok (.invokevirtual 179, 3) := by decide +kernel
theorem dX5_count_106 : decode cX5_count 106 = .ok (.ireturn, 1) := by decide +kernel
theorem dX5_count_107 : decode cX5_count 107 = .ok (.aload_n 0, 1) := by decide +kernel
theorem dX5_count_108 : decode cX5_count 108 = .ok (.invokevirtual 182, 3) := by decide +kernel
theorem dX5_count_111 : decode cX5_count 111 = .ok (.ireturn, 1) := by decide +kernel
theorem dX5_count_112 : decode cX5_count 112 = .ok (.aload_n 0, 1) := by decide +kernel
theorem dX5_count_113 : decode cX5_count 113 = .ok (.iconst 5, 1) := by decide +kernel
theorem dX5_count_114 : decode cX5_count 114 = .ok (.invokevirtual 185, 3) := by decide +kernel
theorem dX5_count_117 : decode cX5_count 117 = .ok (.ireturn, 1) := by decide +kernel
theorem dX5_count_118 : decode cX5_count 118 = .ok (.aload_n 0, 1) := by decide +kernel
theorem dX5_count_119 : decode cX5_count 119 = .ok (.bipush 6, 2) := by decide +kernel
theorem dX5_count_121 : decode cX5_count 121 = .ok (.invokevirtual 185, 3) := by decide +kernel
theorem dX5_count_124 : decode cX5_count 124 = .ok (.ireturn, 1) := by decide +kernel
theorem dX5_count_125 : decode cX5_count 125 = .ok (.aload_n 0, 1) := by decide +kernel
theorem dX5_count_126 : decode cX5_count 126 = .ok (.bipush 7, 2) := by decide +kernel
theorem dX5_count_128 : decode cX5_count 128 = .ok (.invokevirtual 185, 3) := by decide +kernel
theorem dX5_count_131 : decode cX5_count 131 = .ok (.ireturn, 1) := by decide +kernel
theorem dX5_count_132 : decode cX5_count 132 = .ok (.aload_n 0, 1) := by decide +kernel
theorem dX5_count_133 : decode cX5_count 133 = .ok (.getfield 7, 3) := by decide +kernel
theorem dX5_count_136 : decode cX5_count 136 = .ok (.sipush 531, 3) := by decide +kernel
theorem dX5_count_139 : decode cX5_count 139 = .ok (.iload_n 1, 1) := by decide +kernel
theorem dX5_count_140 : decode cX5_count 140 = .ok (.iadd, 1) := by decide +kernel
theorem dX5_count_141 : decode cX5_count 141 = .ok (.bipush 9, 2) := by decide +kernel
theorem dX5_count_143 : decode cX5_count 143 = .ok (.isub, 1) := by decide +kernel
theorem dX5_count_144 : decode cX5_count 144 = .ok (.iaload, 1) := by decide +kernel
theorem dX5_count_145 : decode cX5_count 145 = .ok (.ireturn, 1) := by decide +kernel
theorem dX5_count_146 : decode cX5_count 146 = .ok (.aload_n 0, 1) := by decide +kernel
theorem dX5_count_147 : decode cX5_count 147 = .ok (.getfield 44, 3) := by decide +kernel
theorem dX5_count_150 : decode cX5_count 150 = .ok (.ireturn, 1) := by decide +kernel
theorem dX5_count_151 : decode cX5_count 151 = .ok (.aload_n 0, 1) := by decide +kernel
theorem dX5_count_152 : decode cX5_count 152 = .ok (.getfield 113, 3) := by decide +kernel
theorem dX5_count_155 : decode cX5_count 155 = .ok (.ireturn, 1) := by decide +kernel
theorem dX5_count_156 : decode cX5_count 156 = .ok (.bipush (-2), 2) := by decide +kernel
theorem dX5_count_158 : decode cX5_count 158 = .ok (.ireturn, 1) := by decide +kernel
