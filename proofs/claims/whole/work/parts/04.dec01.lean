theorem dc_De_chartNow_0 : decode cd_De_chartNow 0 = .ok (.aload_n 0, 1) := by decide +kernel
theorem dc_De_chartNow_1 : decode cd_De_chartNow 1 = .ok (.getfield 9, 3) := by decide +kernel
theorem dc_De_chartNow_4 : decode cd_De_chartNow 4 = .ok (.iconst 4, 1) := by decide +kernel
theorem dc_De_chartNow_5 : decode cd_De_chartNow 5 = .ok (.if_icmp .le 13, 3) := by decide +kernel
theorem dc_De_chartNow_8 : decode cd_De_chartNow 8 = .ok (.new 203, 3) := by decide +kernel
theorem dc_De_chartNow_11 : decode cd_De_chartNow 11 = .ok (.dup, 1) := by decide +kernel
theorem dc_De_chartNow_12 : decode cd_De_chartNow 12 = .ok (.ldc 205, 2) := by decide +kernel
theorem dc_De_chartNow_14 : decode cd_De_chartNow 14 = .ok (.invokespecial 207, 3) := by decide +kernel
theorem dc_De_chartNow_17 : decode cd_De_chartNow 17 = .ok (.athrow, 1) := by decide +kernel
theorem dc_De_chartNow_18 : decode cd_De_chartNow 18 = .ok (.aload_n 0, 1) := by decide +kernel
theorem dc_De_chartNow_19 : decode cd_De_chartNow 19 = .ok (.getfield 36, 3) := by decide +kernel
theorem dc_De_chartNow_22 : decode cd_De_chartNow 22 = .ok (.aload_n 0, 1) := by decide +kernel
theorem dc_De_chartNow_23 : decode cd_De_chartNow 23 = .ok (.getfield 9, 3) := by decide +kernel
theorem dc_De_chartNow_26 : decode cd_De_chartNow 26 = .ok (.aaload, 1) := by decide +kernel
theorem dc_De_chartNow_27 : decode cd_De_chartNow 27 = .ok (.ifnonnull 39, 3) := by decide +kernel
theorem dc_De_chartNow_30 : decode cd_De_chartNow 30 = .ok (.aload_n 0, 1) := by decide +kernel
theorem dc_De_chartNow_31 : decode cd_De_chartNow 31 = .ok (.getfield 36, 3) := by decide +kernel
theorem dc_De_chartNow_34 : decode cd_De_chartNow 34 = .ok (.aload_n 0, 1) := by decide +kernel
theorem dc_De_chartNow_35 : decode cd_De_chartNow 35 = .ok (.getfield 9, 3) := by decide +kernel
theorem dc_De_chartNow_38 : decode cd_De_chartNow 38 = .ok (.new 34, 3) := by decide +kernel
theorem dc_De_chartNow_41 : decode cd_De_chartNow 41 = .ok (.dup, 1) := by decide +kernel
theorem dc_De_chartNow_42 : decode cd_De_chartNow 42 = .ok (.aload_n 0, 1) := by decide +kernel
theorem dc_De_chartNow_43 : decode cd_De_chartNow 43 = .ok (.getfield 9, 3) := by decide +kernel
theorem dc_De_chartNow_46 : decode cd_De_chartNow 46 = .ok (.invokespecial 208, 3) := by decide +kernel
theorem dc_De_chartNow_49 : decode cd_De_chartNow 49 = .ok (.aastore, 1) := by decide +kernel
theorem dc_De_chartNow_50 : decode cd_De_chartNow 50 = .ok (.aload_n 0, 1) := by decide +kernel
theorem dc_De_chartNow_51 : decode cd_De_chartNow 51 = .ok (.getfield 36, 3) := by decide +kernel
theorem dc_De_chartNow_54 : decode cd_De_chartNow 54 = .ok (.aload_n 0, 1) := by decide +kernel
theorem dc_De_chartNow_55 : decode cd_De_chartNow 55 = .ok (.getfield 9, 3) := by decide +kernel
theorem dc_De_chartNow_58 : decode cd_De_chartNow 58 = .ok (.aaload, 1) := by decide +kernel
theorem dc_De_chartNow_59 : decode cd_De_chartNow 59 = .ok (.aload_n 0, 1) := by decide +kernel
theorem dc_De_chartNow_60 : decode cd_De_chartNow 60 = .ok (.getfield 30, 3) := by decide +kernel
theorem dc_De_chartNow_63 : decode cd_De_chartNow 63 = .ok (.invokevirtual 210, 3) := by decide +kernel
theorem dc_De_chartNow_66 : decode cd_De_chartNow 66 = .ok (.aload_n 0, 1) := by decide +kernel
theorem dc_De_chartNow_67 : decode cd_De_chartNow 67 = .ok (.getfield 36, 3) := by decide +kernel
theorem dc_De_chartNow_70 : decode cd_De_chartNow 70 = .ok (.aload_n 0, 1) := by decide +kernel
theorem dc_De_chartNow_71 : decode cd_De_chartNow 71 = .ok (.getfield 9, 3) := by decide +kernel
theorem dc_De_chartNow_74 : decode cd_De_chartNow 74 = .ok (.aaload, 1) := by decide +kernel
theorem dc_De_chartNow_75 : decode cd_De_chartNow 75 = .ok (.areturn, 1) := by decide +kernel
theorem dc_De_triedTo_0 : decode cd_De_triedTo 0 = .ok (.aload_n 0, 1) := by decide +kernel
theorem dc_De_triedTo_1 : decode cd_De_triedTo 1 = .ok (.aload_n 0, 1) := by decide +kernel
theorem dc_De_triedTo_2 : decode cd_De_triedTo 2 = .ok (.getfield 53, 3) := by decide +kernel
theorem dc_De_triedTo_5 : decode cd_De_triedTo 5 = .ok (.aload_n 0, 1) := by decide +kernel
theorem dc_De_triedTo_6 : decode cd_De_triedTo 6 = .ok (.getfield 15, 3) := by decide +kernel
theorem dc_De_triedTo_9 : decode cd_De_triedTo 9 = .ok (.iload_n 1, 1) := by decide +kernel
theorem dc_De_triedTo_10 : decode cd_De_triedTo 10 = .ok (.aaload, 1) := by decide +kernel
theorem dc_De_triedTo_11 : decode cd_De_triedTo 11 = .ok (.getfield 91, 3) := by decide +kernel
theorem dc_De_triedTo_14 : decode cd_De_triedTo 14 = .ok (.invokevirtual 141, 3) := by decide +kernel
theorem dc_De_triedTo_17 : decode cd_De_triedTo 17 = .ok (.aload_n 2, 1) := by decide +kernel
theorem dc_De_triedTo_18 : decode cd_De_triedTo 18 = .ok (.getfield 214, 3) := by decide +kernel
theorem dc_De_triedTo_21 : decode cd_De_triedTo 21 = .ok (.aload_n 2, 1) := by decide +kernel
theorem dc_De_triedTo_22 : decode cd_De_triedTo 22 = .ok (.aload_n 0, 1) := by decide +kernel
theorem dc_De_triedTo_23 : decode cd_De_triedTo 23 = .ok (.getfield 50, 3) := by decide +kernel
theorem dc_De_triedTo_26 : decode cd_De_triedTo 26 = .ok (.invokevirtual 217, 3) := by decide +kernel
theorem dc_De_triedTo_29 : decode cd_De_triedTo 29 = .ok (.iaload, 1) := by decide +kernel
theorem dc_De_triedTo_30 : decode cd_De_triedTo 30 = .ok (.ireturn, 1) := by decide +kernel
theorem dc_De_turn_0 : decode cd_De_turn 0 = .ok (.iload_n 1, 1) := by decide +kernel
theorem dc_De_turn_1 : decode cd_De_turn 1 = .ok (.istore_n 3, 1) := by decide +kernel
theorem dc_De_turn_2 : decode cd_De_turn 2 = .ok (.iload_n 2, 1) := by decide +kernel
theorem dc_De_turn_3 : decode cd_De_turn 3 = .ok (.istore 4, 2) := by decide +kernel
theorem dc_De_turn_5 : decode cd_De_turn 5 = .ok (.iload_n 3, 1) := by decide +kernel
theorem dc_De_turn_6 : decode cd_De_turn 6 = .ok (.iload 4, 2) := by decide +kernel
theorem dc_De_turn_8 : decode cd_De_turn 8 = .ok (.if_icmp .gt 32, 3) := by decide +kernel
theorem dc_De_turn_11 : decode cd_De_turn 11 = .ok (.aload_n 0, 1) := by decide +kernel
theorem dc_De_turn_12 : decode cd_De_turn 12 = .ok (.iload_n 3, 1) := by decide +kernel
theorem dc_De_turn_13 : decode cd_De_turn 13 = .ok (.iaload, 1) := by decide +kernel
theorem dc_De_turn_14 : decode cd_De_turn 14 = .ok (.istore 5, 2) := by decide +kernel
theorem dc_De_turn_16 : decode cd_De_turn 16 = .ok (.aload_n 0, 1) := by decide +kernel
theorem dc_De_turn_17 : decode cd_De_turn 17 = .ok (.iload_n 3, 1) := by decide +kernel
theorem dc_De_turn_18 : decode cd_De_turn 18 = .ok (.aload_n 0, 1) := by decide +kernel
theorem dc_De_turn_19 : decode cd_De_turn 19 = .ok (.iload 4, 2) := by decide +kernel
theorem dc_De_turn_21 : decode cd_De_turn 21 = .ok (.iaload, 1) := by decide +kernel
theorem dc_De_turn_22 : decode cd_De_turn 22 = .ok (.ineg, 1) := by decide +kernel
theorem dc_De_turn_23 : decode cd_De_turn 23 = .ok (.iastore, 1) := by decide +kernel
theorem dc_De_turn_24 : decode cd_De_turn 24 = .ok (.aload_n 0, 1) := by decide +kernel
theorem dc_De_turn_25 : decode cd_De_turn 25 = .ok (.iload 4, 2) := by decide +kernel
theorem dc_De_turn_27 : decode cd_De_turn 27 = .ok (.iload 5, 2) := by decide +kernel
theorem dc_De_turn_29 : decode cd_De_turn 29 = .ok (.ineg, 1) := by decide +kernel
theorem dc_De_turn_30 : decode cd_De_turn 30 = .ok (.iastore, 1) := by decide +kernel
theorem dc_De_turn_31 : decode cd_De_turn 31 = .ok (.iinc 3 1, 3) := by decide +kernel
theorem dc_De_turn_34 : decode cd_De_turn 34 = .ok (.iinc 4 (-1), 3) := by decide +kernel
theorem dc_De_turn_37 : decode cd_De_turn 37 = .ok (.goto (-32), 3) := by decide +kernel
theorem dc_De_turn_40 : decode cd_De_turn 40 = .ok (.return_, 1) := by decide +kernel
theorem dc_Mo_init_0 : decode cd_Mo_init 0 = .ok (.aload_n 0, 1) := by decide +kernel
theorem dc_Mo_init_1 : decode cd_Mo_init 1 = .ok (.invokespecial 1, 3) := by decide +kernel
theorem dc_Mo_init_4 : decode cd_Mo_init 4 = .ok (.aload_n 0, 1) := by decide +kernel
theorem dc_Mo_init_5 : decode cd_Mo_init 5 = .ok (.iconst 4, 1) := by decide +kernel
theorem dc_Mo_init_6 : decode cd_Mo_init 6 = .ok (.putfield 7, 3) := by decide +kernel
theorem dc_Mo_init_9 : decode cd_Mo_init 9 = .ok (.aload_n 0, 1) := by decide +kernel
theorem dc_Mo_init_10 : decode cd_Mo_init 10 = .ok (.bipush 30, 2) := by decide +kernel
theorem dc_Mo_init_12 : decode cd_Mo_init 12 = .ok (.newarray .int, 2) := by decide +kernel
theorem dc_Mo_init_14 : decode cd_Mo_init 14 = .ok (.putfield 13, 3) := by decide +kernel
theorem dc_Mo_init_17 : decode cd_Mo_init 17 = .ok (.aload_n 0, 1) := by decide +kernel
theorem dc_Mo_init_18 : decode cd_Mo_init 18 = .ok (.iconst 5, 1) := by decide +kernel
theorem dc_Mo_init_19 : decode cd_Mo_init 19 = .ok (.newarray .int, 2) := by decide +kernel
theorem dc_Mo_init_21 : decode cd_Mo_init 21 = .ok (.putfield 17, 3) := by decide +kernel
theorem dc_Mo_init_24 : decode cd_Mo_init 24 = .ok (.aload_n 0, 1) := by decide +kernel
theorem dc_Mo_init_25 : decode cd_Mo_init 25 = .ok (.bipush 40, 2) := by decide +kernel
theorem dc_Mo_init_27 : decode cd_Mo_init 27 = .ok (.newarray .int, 2) := by decide +kernel
theorem dc_Mo_init_29 : decode cd_Mo_init 29 = .ok (.putfield 20, 3) := by decide +kernel
theorem dc_Mo_init_32 : decode cd_Mo_init 32 = .ok (.aload_n 0, 1) := by decide +kernel
theorem dc_Mo_init_33 : decode cd_Mo_init 33 = .ok (.bipush 24, 2) := by decide +kernel
theorem dc_Mo_init_35 : decode cd_Mo_init 35 = .ok (.newarray .int, 2) := by decide +kernel
theorem dc_Mo_init_37 : decode cd_Mo_init 37 = .ok (.putfield 23, 3) := by decide +kernel
theorem dc_Mo_init_40 : decode cd_Mo_init 40 = .ok (.aload_n 0, 1) := by decide +kernel
theorem dc_Mo_init_41 : decode cd_Mo_init 41 = .ok (.bipush 8, 2) := by decide +kernel
theorem dc_Mo_init_43 : decode cd_Mo_init 43 = .ok (.newarray .int, 2) := by decide +kernel
theorem dc_Mo_init_45 : decode cd_Mo_init 45 = .ok (.putfield 26, 3) := by decide +kernel
theorem dc_Mo_init_48 : decode cd_Mo_init 48 = .ok (.aload_n 0, 1) := by decide +kernel
theorem dc_Mo_init_49 : decode cd_Mo_init 49 = .ok (.bipush 7, 2) := by decide +kernel
theorem dc_Mo_init_51 : decode cd_Mo_init 51 = .ok (.newarray .boolean, 2) := by decide +kernel
theorem dc_Mo_init_53 : decode cd_Mo_init 53 = .ok (.putfield 29, 3) := by decide +kernel
theorem dc_Mo_init_56 : decode cd_Mo_init 56 = .ok (.aload_n 0, 1) := by decide +kernel
theorem dc_Mo_init_57 : decode cd_Mo_init 57 = .ok (.ldc 33, 2) := by decide +kernel
theorem dc_Mo_init_59 : decode cd_Mo_init 59 = .ok (.newarray .int, 2) := by decide +kernel
theorem dc_Mo_init_61 : decode cd_Mo_init 61 = .ok (.putfield 34, 3) := by decide +kernel
theorem dc_Mo_init_64 : decode cd_Mo_init 64 = .ok (.aload_n 0, 1) := by decide +kernel
theorem dc_Mo_init_65 : decode cd_Mo_init 65 = .ok (.ldc 37, 2) := by decide +kernel
theorem dc_Mo_init_67 : decode cd_Mo_init 67 = .ok (.newarray .int, 2) := by decide +kernel
theorem dc_Mo_init_69 : decode cd_Mo_init 69 = .ok (.putfield 38, 3) := by decide +kernel
theorem dc_Mo_init_72 : decode cd_Mo_init 72 = .ok (.aload_n 0, 1) := by decide +kernel
theorem dc_Mo_init_73 : decode cd_Mo_init 73 = .ok (.sipush 442, 3) := by decide +kernel
theorem dc_Mo_init_76 : decode cd_Mo_init 76 = .ok (.newarray .long, 2) := by decide +kernel
theorem dc_Mo_init_78 : decode cd_Mo_init 78 = .ok (.putfield 41, 3) := by decide +kernel
theorem dc_Mo_init_81 : decode cd_Mo_init 81 = .ok (.aload_n 0, 1) := by decide +kernel
theorem dc_Mo_init_82 : decode cd_Mo_init 82 = .ok (.bipush 6, 2) := by decide +kernel
theorem dc_Mo_init_84 : decode cd_Mo_init 84 = .ok (.newarray .int, 2) := by decide +kernel
theorem dc_Mo_init_86 : decode cd_Mo_init 86 = .ok (.putfield 45, 3) := by decide +kernel
theorem dc_Mo_init_89 : decode cd_Mo_init 89 = .ok (.aload_n 0, 1) := by decide +kernel
theorem dc_Mo_init_90 : decode cd_Mo_init 90 = .ok (.bipush 6, 2) := by decide +kernel
theorem dc_Mo_init_92 : decode cd_Mo_init 92 = .ok (.newarray .int, 2) := by decide +kernel
theorem dc_Mo_init_94 : decode cd_Mo_init 94 = .ok (.putfield 48, 3) := by decide +kernel
theorem dc_Mo_init_97 : decode cd_Mo_init 97 = .ok (.aload_n 0, 1) := by decide +kernel
theorem dc_Mo_init_98 : decode cd_Mo_init 98 = .ok (.bipush 6, 2) := by decide +kernel
theorem dc_Mo_init_100 : decode cd_Mo_init 100 = .ok (.newarray .int, 2) := by decide +kernel
theorem dc_Mo_init_102 : decode cd_Mo_init 102 = .ok (.putfield 51, 3) := by decide +kernel
theorem dc_Mo_init_105 : decode cd_Mo_init 105 = .ok (.aload_n 0, 1) := by decide +kernel
theorem dc_Mo_init_106 : decode cd_Mo_init 106 = .ok (.bipush 14, 2) := by decide +kernel
theorem dc_Mo_init_108 : decode cd_Mo_init 108 = .ok (.newarray .int, 2) := by decide +kernel
theorem dc_Mo_init_110 : decode cd_Mo_init 110 = .ok (.putfield 54, 3) := by decide +kernel
theorem dc_Mo_init_113 : decode cd_Mo_init 113 = .ok (.aload_n 0, 1) := by decide +kernel
theorem dc_Mo_init_114 : decode cd_Mo_init 114 = .ok (.bipush 14, 2) := by decide +kernel
theorem dc_Mo_init_116 : decode cd_Mo_init 116 = .ok (.newarray .int, 2) := by decide +kernel
theorem dc_Mo_init_118 : decode cd_Mo_init 118 = .ok (.putfield 57, 3) := by decide +kernel
theorem dc_Mo_init_121 : decode cd_Mo_init 121 = .ok (.aload_n 0, 1) := by decide +kernel
theorem dc_Mo_init_122 : decode cd_Mo_init 122 = .ok (.bipush 7, 2) := by decide +kernel
theorem dc_Mo_init_124 : decode cd_Mo_init 124 = .ok (.newarray .int, 2) := by decide +kernel
theorem dc_Mo_init_126 : decode cd_Mo_init 126 = .ok (.putfield 60, 3) := by decide +kernel
theorem dc_Mo_init_129 : decode cd_Mo_init 129 = .ok (.aload_n 0, 1) := by decide +kernel
theorem dc_Mo_init_130 : decode cd_Mo_init 130 = .ok (.bipush 7, 2) := by decide +kernel
theorem dc_Mo_init_132 : decode cd_Mo_init 132 = .ok (.newarray .boolean, 2) := by decide +kernel
theorem dc_Mo_init_134 : decode cd_Mo_init 134 = .ok (.putfield 63, 3) := by decide +kernel
theorem dc_Mo_init_137 : decode cd_Mo_init 137 = .ok (.aload_n 0, 1) := by decide +kernel
theorem dc_Mo_init_138 : decode cd_Mo_init 138 = .ok (.bipush 14, 2) := by decide +kernel
theorem dc_Mo_init_140 : decode cd_Mo_init 140 = .ok (.newarray .boolean, 2) := by decide +kernel
theorem dc_Mo_init_142 : decode cd_Mo_init 142 = .ok (.putfield 66, 3) := by decide +kernel
theorem dc_Mo_init_145 : decode cd_Mo_init 145 = .ok (.aload_n 0, 1) := by decide +kernel
theorem dc_Mo_init_146 : decode cd_Mo_init 146 = .ok (.bipush 14, 2) := by decide +kernel
theorem dc_Mo_init_148 : decode cd_Mo_init 148 = .ok (.newarray .int, 2) := by decide +kernel
theorem dc_Mo_init_150 : decode cd_Mo_init 150 = .ok (.putfield 69, 3) := by decide +kernel
theorem dc_Mo_init_153 : decode cd_Mo_init 153 = .ok (.aload_n 0, 1) := by decide +kernel
theorem dc_Mo_init_154 : decode cd_Mo_init 154 = .ok (.invokevirtual 72, 3) := by decide +kernel
theorem dc_Mo_init_157 : decode cd_Mo_init 157 = .ok (.return_, 1) := by decide +kernel
theorem dc_Mo_thrown_0 : decode cd_Mo_thrown 0 = .ok (.aload_n 0, 1) := by decide +kernel
theorem dc_Mo_thrown_1 : decode cd_Mo_thrown 1 = .ok (.getfield 75, 3) := by decide +kernel
theorem dc_Mo_thrown_4 : decode cd_Mo_thrown 4 = .ok (.ireturn, 1) := by decide +kernel
theorem dc_Mo_noSlot_0 : decode cd_Mo_noSlot 0 = .ok (.iload_n 0, 1) := by decide +kernel
theorem dc_Mo_noSlot_1 : decode cd_Mo_noSlot 1 = .ok (.ifCond .lt 8, 3) := by decide +kernel
theorem dc_Mo_noSlot_4 : decode cd_Mo_noSlot 4 = .ok (.iload_n 0, 1) := by decide +kernel
theorem dc_Mo_noSlot_5 : decode cd_Mo_noSlot 5 = .ok (.iconst 5, 1) := by decide +kernel
theorem dc_Mo_noSlot_6 : decode cd_Mo_noSlot 6 = .ok (.if_icmp .lt 7, 3) := by decide +kernel
theorem dc_Mo_noSlot_9 : decode cd_Mo_noSlot 9 = .ok (.iconst 1, 1) := by decide +kernel
theorem dc_Mo_noSlot_10 : decode cd_Mo_noSlot 10 = .ok (.goto 4, 3) := by decide +kernel
theorem dc_Mo_noSlot_13 : decode cd_Mo_noSlot 13 = .ok (.iconst 0, 1) := by decide +kernel
theorem dc_Mo_noSlot_14 : decode cd_Mo_noSlot 14 = .ok (.ireturn, 1) := by decide +kernel
theorem dc_Mo_clear_0 : decode cd_Mo_clear 0 = .ok (.iconst 0, 1) := by decide +kernel
theorem dc_Mo_clear_1 : decode cd_Mo_clear 1 = .ok (.istore_n 1, 1) := by decide +kernel
theorem dc_Mo_clear_2 : decode cd_Mo_clear 2 = .ok (.iload_n 1, 1) := by decide +kernel
theorem dc_Mo_clear_3 : decode cd_Mo_clear 3 = .ok (.iconst 5, 1) := by decide +kernel
theorem dc_Mo_clear_4 : decode cd_Mo_clear 4 = .ok (.if_icmp .ge 46, 3) := by decide +kernel
theorem dc_Mo_clear_7 : decode cd_Mo_clear 7 = .ok (.iconst 0, 1) := by decide +kernel
theorem dc_Mo_clear_8 : decode cd_Mo_clear 8 = .ok (.istore_n 2, 1) := by decide +kernel
theorem dc_Mo_clear_9 : decode cd_Mo_clear 9 = .ok (.iload_n 2, 1) := by decide +kernel
theorem dc_Mo_clear_10 : decode cd_Mo_clear 10 = .ok (.aload_n 0, 1) := by decide +kernel
theorem dc_Mo_clear_11 : decode cd_Mo_clear 11 = .ok (.getfield 7, 3) := by decide +kernel
theorem dc_Mo_clear_14 : decode cd_Mo_clear 14 = .ok (.if_icmp .ge 23, 3) := by decide +kernel
theorem dc_Mo_clear_17 : decode cd_Mo_clear 17 = .ok (.aload_n 0, 1) := by decide +kernel
theorem dc_Mo_clear_18 : decode cd_Mo_clear 18 = .ok (.getfield 13, 3) := by decide +kernel
theorem dc_Mo_clear_21 : decode cd_Mo_clear 21 = .ok (.bipush 6, 2) := by decide +kernel
theorem dc_Mo_clear_23 : decode cd_Mo_clear 23 = .ok (.iload_n 1, 1) := by decide +kernel
theorem dc_Mo_clear_24 : decode cd_Mo_clear 24 = .ok (.imul, 1) := by decide +kernel
theorem dc_Mo_clear_25 : decode cd_Mo_clear 25 = .ok (.iload_n 2, 1) := by decide +kernel
theorem dc_Mo_clear_26 : decode cd_Mo_clear 26 = .ok (.iadd, 1) := by decide +kernel
theorem dc_Mo_clear_27 : decode cd_Mo_clear 27 = .ok (.iload_n 2, 1) := by decide +kernel
theorem dc_Mo_clear_28 : decode cd_Mo_clear 28 = .ok (.iconst 1, 1) := by decide +kernel
theorem dc_Mo_clear_29 : decode cd_Mo_clear 29 = .ok (.iadd, 1) := by decide +kernel
theorem dc_Mo_clear_30 : decode cd_Mo_clear 30 = .ok (.iastore, 1) := by decide +kernel
theorem dc_Mo_clear_31 : decode cd_Mo_clear 31 = .ok (.iinc 2 1, 3) := by decide +kernel
theorem dc_Mo_clear_34 : decode cd_Mo_clear 34 = .ok (.goto (-25), 3) := by decide +kernel
theorem dc_Mo_clear_37 : decode cd_Mo_clear 37 = .ok (.aload_n 0, 1) := by decide +kernel
theorem dc_Mo_clear_38 : decode cd_Mo_clear 38 = .ok (.getfield 17, 3) := by decide +kernel
theorem dc_Mo_clear_41 : decode cd_Mo_clear 41 = .ok (.iload_n 1, 1) := by decide +kernel
theorem dc_Mo_clear_42 : decode cd_Mo_clear 42 = .ok (.iconst 0, 1) := by decide +kernel
theorem dc_Mo_clear_43 : decode cd_Mo_clear 43 = .ok (.iastore, 1) := by decide +kernel
theorem dc_Mo_clear_44 : decode cd_Mo_clear 44 = .ok (.iinc 1 1, 3) := by decide +kernel
theorem dc_Mo_clear_47 : decode cd_Mo_clear 47 = .ok (.goto (-45), 3) := by decide +kernel
theorem dc_Mo_clear_50 : decode cd_Mo_clear 50 = .ok (.aload_n 0, 1) := by decide +kernel
theorem dc_Mo_clear_51 : decode cd_Mo_clear 51 = .ok (.iconst 0, 1) := by decide +kernel
theorem dc_Mo_clear_52 : decode cd_Mo_clear 52 = .ok (.putfield 78, 3) := by decide +kernel
theorem dc_Mo_clear_55 : decode cd_Mo_clear 55 = .ok (.return_, 1) := by decide +kernel
theorem dc_Mo_genes_0 : decode cd_Mo_genes 0 = .ok (.aload_n 0, 1) := by decide +kernel
theorem dc_Mo_genes_1 : decode cd_Mo_genes 1 = .ok (.iload_n 1, 1) := by decide +kernel
theorem dc_Mo_genes_2 : decode cd_Mo_genes 2 = .ok (.iconst 1, 1) := by decide +kernel
theorem dc_Mo_genes_3 : decode cd_Mo_genes 3 = .ok (.if_icmp .lt 9, 3) := by decide +kernel
theorem dc_Mo_genes_6 : decode cd_Mo_genes 6 = .ok (.iload_n 1, 1) := by decide +kernel
theorem dc_Mo_genes_7 : decode cd_Mo_genes 7 = .ok (.bipush 6, 2) := by decide +kernel
theorem dc_Mo_genes_9 : decode cd_Mo_genes 9 = .ok (.if_icmp .le 7, 3) := by decide +kernel
theorem dc_Mo_genes_12 : decode cd_Mo_genes 12 = .ok (.iconst 1, 1) := by decide +kernel
theorem dc_Mo_genes_13 : decode cd_Mo_genes 13 = .ok (.goto 4, 3) := by decide +kernel
theorem dc_Mo_genes_16 : decode cd_Mo_genes 16 = .ok (.iconst 0, 1) := by decide +kernel
theorem dc_Mo_genes_17 : decode cd_Mo_genes 17 = .ok (.putfield 75, 3) := by decide +kernel
theorem dc_Mo_genes_20 : decode cd_Mo_genes 20 = .ok (.aload_n 0, 1) := by decide +kernel
theorem dc_Mo_genes_21 : decode cd_Mo_genes 21 = .ok (.getfield 75, 3) := by decide +kernel
theorem dc_Mo_genes_24 : decode cd_Mo_genes 24 = .ok (.ifCond .ne 12, 3) := by decide +kernel
theorem dc_Mo_genes_27 : decode cd_Mo_genes 27 = .ok (.aload_n 0, 1) := by decide +kernel
theorem dc_Mo_genes_28 : decode cd_Mo_genes 28 = .ok (.iload_n 1, 1) := by decide +kernel
theorem dc_Mo_genes_29 : decode cd_Mo_genes 29 = .ok (.putfield 7, 3) := by decide +kernel
theorem dc_Mo_genes_32 : decode cd_Mo_genes 32 = .ok (.aload_n 0, 1) := by decide +kernel
theorem dc_Mo_genes_33 : decode cd_Mo_genes 33 = .ok (.invokevirtual 72, 3) := by decide +kernel
theorem dc_Mo_genes_36 : decode cd_Mo_genes 36 = .ok (.return_, 1) := by decide +kernel
theorem dc_Mo_write_0 : decode cd_Mo_write 0 = .ok (.aload_n 0, 1) := by decide +kernel
theorem dc_Mo_write_1 : decode cd_Mo_write 1 = .ok (.iconst 0, 1) := by decide +kernel
theorem dc_Mo_write_2 : decode cd_Mo_write 2 = .ok (.putfield 75, 3) := by decide +kernel
theorem dc_Mo_write_5 : decode cd_Mo_write 5 = .ok (.iconst 0, 1) := by decide +kernel
theorem dc_Mo_write_6 : decode cd_Mo_write 6 = .ok (.istore_n 3, 1) := by decide +kernel
theorem dc_Mo_write_7 : decode cd_Mo_write 7 = .ok (.iconst 0, 1) := by decide +kernel
theorem dc_Mo_write_8 : decode cd_Mo_write 8 = .ok (.istore 4, 2) := by decide +kernel
theorem dc_Mo_write_10 : decode cd_Mo_write 10 = .ok (.iload 4, 2) := by decide +kernel
theorem dc_Mo_write_12 : decode cd_Mo_write 12 = .ok (.bipush 64, 2) := by decide +kernel
theorem dc_Mo_write_14 : decode cd_Mo_write 14 = .ok (.if_icmp .ge 30, 3) := by decide +kernel
theorem dc_Mo_write_17 : decode cd_Mo_write 17 = .ok (.lload_n 1, 1) := by decide +kernel
theorem dc_Mo_write_18 : decode cd_Mo_write 18 = .ok (.iload 4, 2) := by decide +kernel
theorem dc_Mo_write_20 : decode cd_Mo_write 20 = .ok (.lshr, 1) := by decide +kernel
theorem dc_Mo_write_21 : decode cd_Mo_write 21 = .ok (.ldc2_w 82, 3) := by decide +kernel
theorem dc_Mo_write_24 : decode cd_Mo_write 24 = .ok (.land, 1) := by decide +kernel
theorem dc_Mo_write_25 : decode cd_Mo_write 25 = .ok (.lconst 0, 1) := by decide +kernel
theorem dc_Mo_write_26 : decode cd_Mo_write 26 = .ok (.lcmp, 1) := by decide +kernel
theorem dc_Mo_write_27 : decode cd_Mo_write 27 = .ok (.ifCond .eq 9, 3) := by decide +kernel
theorem dc_Mo_write_30 : decode cd_Mo_write 30 = .ok (.iload_n 3, 1) := by decide +kernel
theorem dc_Mo_write_31 : decode cd_Mo_write 31 = .ok (.iconst 1, 1) := by decide +kernel
theorem dc_Mo_write_32 : decode cd_Mo_write 32 = .ok (.iadd, 1) := by decide +kernel
theorem dc_Mo_write_33 : decode cd_Mo_write 33 = .ok (.goto 4, 3) := by decide +kernel
theorem dc_Mo_write_36 : decode cd_Mo_write 36 = .ok (.iload_n 3, 1) := by decide +kernel
theorem dc_Mo_write_37 : decode cd_Mo_write 37 = .ok (.istore_n 3, 1) := by decide +kernel
theorem dc_Mo_write_38 : decode cd_Mo_write 38 = .ok (.iinc 4 8, 3) := by decide +kernel
theorem dc_Mo_write_41 : decode cd_Mo_write 41 = .ok (.goto (-31), 3) := by decide +kernel
theorem dc_Mo_write_44 : decode cd_Mo_write 44 = .ok (.aload_n 0, 1) := by decide +kernel
theorem dc_Mo_write_45 : decode cd_Mo_write 45 = .ok (.getfield 84, 3) := by decide +kernel
theorem dc_Mo_write_48 : decode cd_Mo_write 48 = .ok (.iload_n 3, 1) := by decide +kernel
theorem dc_Mo_write_49 : decode cd_Mo_write 49 = .ok (.iadd, 1) := by decide +kernel
theorem dc_Mo_write_50 : decode cd_Mo_write 50 = .ok (.bipush 24, 2) := by decide +kernel
theorem dc_Mo_write_52 : decode cd_Mo_write 52 = .ok (.if_icmp .le 5, 3) := by decide +kernel
theorem dc_Mo_write_55 : decode cd_Mo_write 55 = .ok (.iconst (-1), 1) := by decide +kernel
theorem dc_Mo_write_56 : decode cd_Mo_write 56 = .ok (.ireturn, 1) := by decide +kernel
theorem dc_Mo_write_57 : decode cd_Mo_write 57 = .ok (.iconst 0, 1) := by decide +kernel
theorem dc_Mo_write_58 : decode cd_Mo_write 58 = .ok (.istore 4, 2) := by decide +kernel
theorem dc_Mo_write_60 : decode cd_Mo_write 60 = .ok (.iload 4, 2) := by decide +kernel
theorem dc_Mo_write_62 : decode cd_Mo_write 62 = .ok (.bipush 64, 2) := by decide +kernel
theorem dc_Mo_write_64 : decode cd_Mo_write 64 = .ok (.if_icmp .ge 46, 3) := by decide +kernel
theorem dc_Mo_write_67 : decode cd_Mo_write 67 = .ok (.lload_n 1, 1) := by decide +kernel
theorem dc_Mo_write_68 : decode cd_Mo_write 68 = .ok (.iload 4, 2) := by decide +kernel
theorem dc_Mo_write_70 : decode cd_Mo_write 70 = .ok (.lshr, 1) := by decide +kernel
theorem dc_Mo_write_71 : decode cd_Mo_write 71 = .ok (.ldc2_w 82, 3) := by decide +kernel
theorem dc_Mo_write_74 : decode cd_Mo_write 74 = .ok (.land, 1) := by decide +kernel
theorem dc_Mo_write_75 : decode cd_Mo_write 75 = .ok (.l2i, 1) := by decide +kernel
theorem dc_Mo_write_76 : decode cd_Mo_write 76 = .ok (.istore 5, 2) := by decide +kernel
theorem dc_Mo_write_78 : decode cd_Mo_write 78 = .ok (.iload 5, 2) := by decide +kernel
theorem dc_Mo_write_80 : decode cd_Mo_write 80 = .ok (.ifCond .eq 24, 3) := by decide +kernel
theorem dc_Mo_write_83 : decode cd_Mo_write 83 = .ok (.aload_n 0, 1) := by decide +kernel
theorem dc_Mo_write_84 : decode cd_Mo_write 84 = .ok (.getfield 23, 3) := by decide +kernel
theorem dc_Mo_write_87 : decode cd_Mo_write 87 = .ok (.aload_n 0, 1) := by decide +kernel
theorem dc_Mo_write_88 : decode cd_Mo_write 88 = .ok (.getfield 84, 3) := by decide +kernel
theorem dc_Mo_write_91 : decode cd_Mo_write 91 = .ok (.iload 5, 2) := by decide +kernel
theorem dc_Mo_write_93 : decode cd_Mo_write 93 = .ok (.iastore, 1) := by decide +kernel
theorem dc_Mo_write_94 : decode cd_Mo_write 94 = .ok (.aload_n 0, 1) := by decide +kernel
theorem dc_Mo_write_95 : decode cd_Mo_write 95 = .ok (.dup, 1) := by decide +kernel
theorem dc_Mo_write_96 : decode cd_Mo_write 96 = .ok (.getfield 84, 3) := by decide +kernel
theorem dc_Mo_write_99 : decode cd_Mo_write 99 = .ok (.iconst 1, 1) := by decide +kernel
theorem dc_Mo_write_100 : decode cd_Mo_write 100 = .ok (.iadd, 1) := by decide +kernel
theorem dc_Mo_write_101 : decode cd_Mo_write 101 = .ok (.putfield 84, 3) := by decide +kernel
theorem dc_Mo_write_104 : decode cd_Mo_write 104 = .ok (.iinc 4 8, 3) := by decide +kernel
theorem dc_Mo_write_107 : decode cd_Mo_write 107 = .ok (.goto (-47), 3) := by decide +kernel
theorem dc_Mo_write_110 : decode cd_Mo_write 110 = .ok (.aload_n 0, 1) := by decide +kernel
theorem dc_Mo_write_111 : decode cd_Mo_write 111 = .ok (.getfield 84, 3) := by decide +kernel
theorem dc_Mo_write_114 : decode cd_Mo_write 114 = .ok (.ireturn, 1) := by decide +kernel
theorem dc_Mo_wipe_0 : decode cd_Mo_wipe 0 = .ok (.aload_n 0, 1) := by decide +kernel
theorem dc_Mo_wipe_1 : decode cd_Mo_wipe 1 = .ok (.iconst 0, 1) := by decide +kernel
theorem dc_Mo_wipe_2 : decode cd_Mo_wipe 2 = .ok (.putfield 75, 3) := by decide +kernel
theorem dc_Mo_wipe_5 : decode cd_Mo_wipe 5 = .ok (.aload_n 0, 1) := by decide +kernel
theorem dc_Mo_wipe_6 : decode cd_Mo_wipe 6 = .ok (.getfield 84, 3) := by decide +kernel
theorem dc_Mo_wipe_9 : decode cd_Mo_wipe 9 = .ok (.istore_n 1, 1) := by decide +kernel
theorem dc_Mo_wipe_10 : decode cd_Mo_wipe 10 = .ok (.aload_n 0, 1) := by decide +kernel
theorem dc_Mo_wipe_11 : decode cd_Mo_wipe 11 = .ok (.iconst 0, 1) := by decide +kernel
theorem dc_Mo_wipe_12 : decode cd_Mo_wipe 12 = .ok (.putfield 84, 3) := by decide +kernel
theorem dc_Mo_wipe_15 : decode cd_Mo_wipe 15 = .ok (.iload_n 1, 1) := by decide +kernel
theorem dc_Mo_wipe_16 : decode cd_Mo_wipe 16 = .ok (.ireturn, 1) := by decide +kernel
theorem dc_Mo_read_0 : decode cd_Mo_read 0 = .ok (.aload_n 0, 1) := by decide +kernel
theorem dc_Mo_read_1 : decode cd_Mo_read 1 = .ok (.iload_n 1, 1) := by decide +kernel
theorem dc_Mo_read_2 : decode cd_Mo_read 2 = .ok (.invokestatic 87, 3) := by decide +kernel
theorem dc_Mo_read_5 : decode cd_Mo_read 5 = .ok (.ifCond .eq 7, 3) := by decide +kernel
theorem dc_Mo_read_8 : decode cd_Mo_read 8 = .ok (.iconst 1, 1) := by decide +kernel
theorem dc_Mo_read_9 : decode cd_Mo_read 9 = .ok (.goto 4, 3) := by decide +kernel
theorem dc_Mo_read_12 : decode cd_Mo_read 12 = .ok (.iconst 0, 1) := by decide +kernel
theorem dc_Mo_read_13 : decode cd_Mo_read 13 = .ok (.putfield 75, 3) := by decide +kernel
theorem dc_Mo_read_16 : decode cd_Mo_read 16 = .ok (.aload_n 0, 1) := by decide +kernel
theorem dc_Mo_read_17 : decode cd_Mo_read 17 = .ok (.getfield 75, 3) := by decide +kernel
theorem dc_Mo_read_20 : decode cd_Mo_read 20 = .ok (.ifCond .le 5, 3) := by decide +kernel
theorem dc_Mo_read_23 : decode cd_Mo_read 23 = .ok (.iconst 0, 1) := by decide +kernel
theorem dc_Mo_read_24 : decode cd_Mo_read 24 = .ok (.ireturn, 1) := by decide +kernel
theorem dc_Mo_read_25 : decode cd_Mo_read 25 = .ok (.iconst 0, 1) := by decide +kernel
theorem dc_Mo_read_26 : decode cd_Mo_read 26 = .ok (.istore_n 2, 1) := by decide +kernel
theorem dc_Mo_read_27 : decode cd_Mo_read 27 = .ok (.iconst 0, 1) := by decide +kernel
theorem dc_Mo_read_28 : decode cd_Mo_read 28 = .ok (.istore_n 3, 1) := by decide +kernel
theorem dc_Mo_read_29 : decode cd_Mo_read 29 = .ok (.iconst 0, 1) := by decide +kernel
theorem dc_Mo_read_30 : decode cd_Mo_read 30 = .ok (.istore 4, 2) := by decide +kernel
theorem dc_Mo_read_32 : decode cd_Mo_read 32 = .ok (.iconst 0, 1) := by decide +kernel
theorem dc_Mo_read_33 : decode cd_Mo_read 33 = .ok (.istore 5, 2) := by decide +kernel
theorem dc_Mo_read_35 : decode cd_Mo_read 35 = .ok (.iload 5, 2) := by decide +kernel
theorem dc_Mo_read_37 : decode cd_Mo_read 37 = .ok (.aload_n 0, 1) := by decide +kernel
theorem dc_Mo_read_38 : decode cd_Mo_read 38 = .ok (.getfield 84, 3) := by decide +kernel
theorem dc_Mo_read_41 : decode cd_Mo_read 41 = .ok (.if_icmp .ge 143, 3) := by decide +kernel
theorem dc_Mo_read_44 : decode cd_Mo_read 44 = .ok (.aload_n 0, 1) := by decide +kernel
theorem dc_Mo_read_45 : decode cd_Mo_read 45 = .ok (.getfield 23, 3) := by decide +kernel
theorem dc_Mo_read_48 : decode cd_Mo_read 48 = .ok (.iload 5, 2) := by decide +kernel
theorem dc_Mo_read_50 : decode cd_Mo_read 50 = .ok (.iaload, 1) := by decide +kernel
theorem dc_Mo_read_51 : decode cd_Mo_read 51 = .ok (.istore 6, 2) := by decide +kernel
theorem dc_Mo_read_53 : decode cd_Mo_read 53 = .ok (.iload 6, 2) := by decide +kernel
theorem dc_Mo_read_55 : decode cd_Mo_read 55 = .ok (.bipush 48, 2) := by decide +kernel
theorem dc_Mo_read_57 : decode cd_Mo_read 57 = .ok (.isub, 1) := by decide +kernel
theorem dc_Mo_read_58 : decode cd_Mo_read 58 = .ok (.istore 7, 2) := by decide +kernel
theorem dc_Mo_read_60 : decode cd_Mo_read 60 = .ok (.iload 7, 2) := by decide +kernel
theorem dc_Mo_read_62 : decode cd_Mo_read 62 = .ok (.iconst 1, 1) := by decide +kernel
theorem dc_Mo_read_63 : decode cd_Mo_read 63 = .ok (.if_icmp .lt 56, 3) := by decide +kernel
theorem dc_Mo_read_66 : decode cd_Mo_read 66 = .ok (.iload 7, 2) := by decide +kernel
theorem dc_Mo_read_68 : decode cd_Mo_read 68 = .ok (.aload_n 0, 1) := by decide +kernel
theorem dc_Mo_read_69 : decode cd_Mo_read 69 = .ok (.getfield 7, 3) := by decide +kernel
theorem dc_Mo_read_72 : decode cd_Mo_read 72 = .ok (.if_icmp .gt 47, 3) := by decide +kernel
theorem dc_Mo_read_75 : decode cd_Mo_read 75 = .ok (.iload_n 3, 1) := by decide +kernel
theorem dc_Mo_read_76 : decode cd_Mo_read 76 = .ok (.iload 7, 2) := by decide +kernel
theorem dc_Mo_read_78 : decode cd_Mo_read 78 = .ok (.ishr, 1) := by decide +kernel
theorem dc_Mo_read_79 : decode cd_Mo_read 79 = .ok (.iconst 1, 1) := by decide +kernel
theorem dc_Mo_read_80 : decode cd_Mo_read 80 = .ok (.iand, 1) := by decide +kernel
theorem dc_Mo_read_81 : decode cd_Mo_read 81 = .ok (.ifCond .ne 38, 3) := by decide +kernel
theorem dc_Mo_read_84 : decode cd_Mo_read 84 = .ok (.aload_n 0, 1) := by decide +kernel
theorem dc_Mo_read_85 : decode cd_Mo_read 85 = .ok (.getfield 45, 3) := by decide +kernel
theorem dc_Mo_read_88 : decode cd_Mo_read 88 = .ok (.iload_n 2, 1) := by decide +kernel
theorem dc_Mo_read_89 : decode cd_Mo_read 89 = .ok (.iload 4, 2) := by decide +kernel
theorem dc_Mo_read_91 : decode cd_Mo_read 91 = .ok (.ifCond .ge 9, 3) := by decide +kernel
theorem dc_Mo_read_94 : decode cd_Mo_read 94 = .ok (.iload 7, 2) := by decide +kernel
theorem dc_Mo_read_96 : decode cd_Mo_read 96 = .ok (.ineg, 1) := by decide +kernel
theorem dc_Mo_read_97 : decode cd_Mo_read 97 = .ok (.goto 5, 3) := by decide +kernel
theorem dc_Mo_read_100 : decode cd_Mo_read 100 = .ok (.iload 7, 2) := by decide +kernel
theorem dc_Mo_read_102 : decode cd_Mo_read 102 = .ok (.iastore, 1) := by decide +kernel
theorem dc_Mo_read_103 : decode cd_Mo_read 103 = .ok (.iinc 2 1, 3) := by decide +kernel
theorem dc_Mo_read_106 : decode cd_Mo_read 106 = .ok (.iload_n 3, 1) := by decide +kernel
theorem dc_Mo_read_107 : decode cd_Mo_read 107 = .ok (.iconst 1, 1) := by decide +kernel
theorem dc_Mo_read_108 : decode cd_Mo_read 108 = .ok (.iload 7, 2) := by decide +kernel
theorem dc_Mo_read_110 : decode cd_Mo_read 110 = .ok (.ishl, 1) := by decide +kernel
theorem dc_Mo_read_111 : decode cd_Mo_read 111 = .ok (.ior, 1) := by decide +kernel
theorem dc_Mo_read_112 : decode cd_Mo_read 112 = .ok (.istore_n 3, 1) := by decide +kernel
theorem dc_Mo_read_113 : decode cd_Mo_read 113 = .ok (.iconst 0, 1) := by decide +kernel
theorem dc_Mo_read_114 : decode cd_Mo_read 114 = .ok (.istore 4, 2) := by decide +kernel
theorem dc_Mo_read_116 : decode cd_Mo_read 116 = .ok (.goto 62, 3) := by decide +kernel
theorem dc_Mo_read_119 : decode cd_Mo_read 119 = .ok (.iload 6, 2) := by decide +kernel
theorem dc_Mo_read_121 : decode cd_Mo_read 121 = .ok (.bipush 43, 2) := by decide +kernel
theorem dc_Mo_read_123 : decode cd_Mo_read 123 = .ok (.if_icmp .eq 10, 3) := by decide +kernel
theorem dc_Mo_read_126 : decode cd_Mo_read 126 = .ok (.iload 6, 2) := by decide +kernel
theorem dc_Mo_read_128 : decode cd_Mo_read 128 = .ok (.bipush 45, 2) := by decide +kernel
theorem dc_Mo_read_130 : decode cd_Mo_read 130 = .ok (.if_icmp .ne 33, 3) := by decide +kernel
theorem dc_Mo_read_133 : decode cd_Mo_read 133 = .ok (.iload 4, 2) := by decide +kernel
theorem dc_Mo_read_135 : decode cd_Mo_read 135 = .ok (.ifCond .ne 28, 3) := by decide +kernel
theorem dc_Mo_read_138 : decode cd_Mo_read 138 = .ok (.iload_n 2, 1) := by decide +kernel
theorem dc_Mo_read_139 : decode cd_Mo_read 139 = .ok (.aload_n 0, 1) := by decide +kernel
theorem dc_Mo_read_140 : decode cd_Mo_read 140 = .ok (.getfield 7, 3) := by decide +kernel
theorem dc_Mo_read_143 : decode cd_Mo_read 143 = .ok (.if_icmp .ge 20, 3) := by decide +kernel
theorem dc_Mo_read_146 : decode cd_Mo_read 146 = .ok (.iload 6, 2) := by decide +kernel
theorem dc_Mo_read_148 : decode cd_Mo_read 148 = .ok (.bipush 43, 2) := by decide +kernel
theorem dc_Mo_read_150 : decode cd_Mo_read 150 = .ok (.if_icmp .ne 7, 3) := by decide +kernel
theorem dc_Mo_read_153 : decode cd_Mo_read 153 = .ok (.iconst 1, 1) := by decide +kernel
theorem dc_Mo_read_154 : decode cd_Mo_read 154 = .ok (.goto 4, 3) := by decide +kernel
theorem dc_Mo_read_157 : decode cd_Mo_read 157 = .ok (.iconst (-1), 1) := by decide +kernel
theorem dc_Mo_read_158 : decode cd_Mo_read 158 = .ok (.istore 4, 2) := by decide +kernel
theorem dc_Mo_read_160 : decode cd_Mo_read 160 = .ok (.goto 18, 3) := by decide +kernel
theorem dc_Mo_read_163 : decode cd_Mo_read 163 = .ok (.iload 6, 2) := by decide +kernel
theorem dc_Mo_read_165 : decode cd_Mo_read 165 = .ok (.bipush 32, 2) := by decide +kernel
theorem dc_Mo_read_167 : decode cd_Mo_read 167 = .ok (.if_icmp .ne 8, 3) := by decide +kernel
theorem dc_Mo_read_170 : decode cd_Mo_read 170 = .ok (.iload 4, 2) := by decide +kernel
theorem dc_Mo_read_172 : decode cd_Mo_read 172 = .ok (.ifCond .eq 6, 3) := by decide +kernel
theorem dc_Mo_read_175 : decode cd_Mo_read 175 = .ok (.iload 5, 2) := by decide +kernel
theorem dc_Mo_read_177 : decode cd_Mo_read 177 = .ok (.ireturn, 1) := by decide +kernel
theorem dc_Mo_read_178 : decode cd_Mo_read 178 = .ok (.iinc 5 1, 3) := by decide +kernel
theorem dc_Mo_read_181 : decode cd_Mo_read 181 = .ok (.goto (-146), 3) := by decide +kernel
theorem dc_Mo_read_184 : decode cd_Mo_read 184 = .ok (.iload_n 2, 1) := by decide +kernel
theorem dc_Mo_read_185 : decode cd_Mo_read 185 = .ok (.aload_n 0, 1) := by decide +kernel
theorem dc_Mo_read_186 : decode cd_Mo_read 186 = .ok (.getfield 7, 3) := by decide +kernel
theorem dc_Mo_read_189 : decode cd_Mo_read 189 = .ok (.if_icmp .ge 8, 3) := by decide +kernel
theorem dc_Mo_read_192 : decode cd_Mo_read 192 = .ok (.aload_n 0, 1) := by decide +kernel
theorem dc_Mo_read_193 : decode cd_Mo_read 193 = .ok (.getfield 84, 3) := by decide +kernel
theorem dc_Mo_read_196 : decode cd_Mo_read 196 = .ok (.ireturn, 1) := by decide +kernel
theorem dc_Mo_read_197 : decode cd_Mo_read 197 = .ok (.iconst 0, 1) := by decide +kernel
theorem dc_Mo_read_198 : decode cd_Mo_read 198 = .ok (.istore 5, 2) := by decide +kernel
theorem dc_Mo_read_200 : decode cd_Mo_read 200 = .ok (.iload 5, 2) := by decide +kernel
theorem dc_Mo_read_202 : decode cd_Mo_read 202 = .ok (.aload_n 0, 1) := by decide +kernel
theorem dc_Mo_read_203 : decode cd_Mo_read 203 = .ok (.getfield 7, 3) := by decide +kernel
theorem dc_Mo_read_206 : decode cd_Mo_read 206 = .ok (.if_icmp .ge 28, 3) := by decide +kernel
theorem dc_Mo_read_209 : decode cd_Mo_read 209 = .ok (.aload_n 0, 1) := by decide +kernel
theorem dc_Mo_read_210 : decode cd_Mo_read 210 = .ok (.getfield 13, 3) := by decide +kernel
theorem dc_Mo_read_213 : decode cd_Mo_read 213 = .ok (.bipush 6, 2) := by decide +kernel
theorem dc_Mo_read_215 : decode cd_Mo_read 215 = .ok (.iload_n 1, 1) := by decide +kernel
theorem dc_Mo_read_216 : decode cd_Mo_read 216 = .ok (.imul, 1) := by decide +kernel
theorem dc_Mo_read_217 : decode cd_Mo_read 217 = .ok (.iload 5, 2) := by decide +kernel
theorem dc_Mo_read_219 : decode cd_Mo_read 219 = .ok (.iadd, 1) := by decide +kernel
theorem dc_Mo_read_220 : decode cd_Mo_read 220 = .ok (.aload_n 0, 1) := by decide +kernel
theorem dc_Mo_read_221 : decode cd_Mo_read 221 = .ok (.getfield 45, 3) := by decide +kernel
theorem dc_Mo_read_224 : decode cd_Mo_read 224 = .ok (.iload 5, 2) := by decide +kernel
theorem dc_Mo_read_226 : decode cd_Mo_read 226 = .ok (.iaload, 1) := by decide +kernel
theorem dc_Mo_read_227 : decode cd_Mo_read 227 = .ok (.iastore, 1) := by decide +kernel
theorem dc_Mo_read_228 : decode cd_Mo_read 228 = .ok (.iinc 5 1, 3) := by decide +kernel
theorem dc_Mo_read_231 : decode cd_Mo_read 231 = .ok (.goto (-31), 3) := by decide +kernel
theorem dc_Mo_read_234 : decode cd_Mo_read 234 = .ok (.aload_n 0, 1) := by decide +kernel
theorem dc_Mo_read_235 : decode cd_Mo_read 235 = .ok (.getfield 17, 3) := by decide +kernel
theorem dc_Mo_read_238 : decode cd_Mo_read 238 = .ok (.iload_n 1, 1) := by decide +kernel
theorem dc_Mo_read_239 : decode cd_Mo_read 239 = .ok (.iconst 0, 1) := by decide +kernel
theorem dc_Mo_read_240 : decode cd_Mo_read 240 = .ok (.iastore, 1) := by decide +kernel
theorem dc_Mo_read_241 : decode cd_Mo_read 241 = .ok (.aload_n 0, 1) := by decide +kernel
theorem dc_Mo_read_242 : decode cd_Mo_read 242 = .ok (.iconst 0, 1) := by decide +kernel
theorem dc_Mo_read_243 : decode cd_Mo_read 243 = .ok (.putfield 84, 3) := by decide +kernel
theorem dc_Mo_read_246 : decode cd_Mo_read 246 = .ok (.iconst (-1), 1) := by decide +kernel
theorem dc_Mo_read_247 : decode cd_Mo_read 247 = .ok (.ireturn, 1) := by decide +kernel
theorem dc_Mo_gene_0 : decode cd_Mo_gene 0 = .ok (.aload_n 0, 1) := by decide +kernel
theorem dc_Mo_gene_1 : decode cd_Mo_gene 1 = .ok (.iload_n 1, 1) := by decide +kernel
theorem dc_Mo_gene_2 : decode cd_Mo_gene 2 = .ok (.invokestatic 87, 3) := by decide +kernel
theorem dc_Mo_gene_5 : decode cd_Mo_gene 5 = .ok (.ifCond .ne 15, 3) := by decide +kernel
theorem dc_Mo_gene_8 : decode cd_Mo_gene 8 = .ok (.iload_n 2, 1) := by decide +kernel
theorem dc_Mo_gene_9 : decode cd_Mo_gene 9 = .ok (.ifCond .lt 11, 3) := by decide +kernel
theorem dc_Mo_gene_12 : decode cd_Mo_gene 12 = .ok (.iload_n 2, 1) := by decide +kernel
theorem dc_Mo_gene_13 : decode cd_Mo_gene 13 = .ok (.aload_n 0, 1) := by decide +kernel
theorem dc_Mo_gene_14 : decode cd_Mo_gene 14 = .ok (.getfield 7, 3) := by decide +kernel
theorem dc_Mo_gene_17 : decode cd_Mo_gene 17 = .ok (.if_icmp .lt 7, 3) := by decide +kernel
theorem dc_Mo_gene_20 : decode cd_Mo_gene 20 = .ok (.iconst 1, 1) := by decide +kernel
theorem dc_Mo_gene_21 : decode cd_Mo_gene 21 = .ok (.goto 4, 3) := by decide +kernel
theorem dc_Mo_gene_24 : decode cd_Mo_gene 24 = .ok (.iconst 0, 1) := by decide +kernel
theorem dc_Mo_gene_25 : decode cd_Mo_gene 25 = .ok (.putfield 75, 3) := by decide +kernel
theorem dc_Mo_gene_28 : decode cd_Mo_gene 28 = .ok (.aload_n 0, 1) := by decide +kernel
theorem dc_Mo_gene_29 : decode cd_Mo_gene 29 = .ok (.getfield 75, 3) := by decide +kernel
theorem dc_Mo_gene_32 : decode cd_Mo_gene 32 = .ok (.ifCond .le 7, 3) := by decide +kernel
theorem dc_Mo_gene_35 : decode cd_Mo_gene 35 = .ok (.iconst 0, 1) := by decide +kernel
theorem dc_Mo_gene_36 : decode cd_Mo_gene 36 = .ok (.goto 14, 3) := by decide +kernel
theorem dc_Mo_gene_39 : decode cd_Mo_gene 39 = .ok (.aload_n 0, 1) := by decide +kernel
theorem dc_Mo_gene_40 : decode cd_Mo_gene 40 = .ok (.getfield 13, 3) := by decide +kernel
theorem dc_Mo_gene_43 : decode cd_Mo_gene 43 = .ok (.bipush 6, 2) := by decide +kernel
theorem dc_Mo_gene_45 : decode cd_Mo_gene 45 = .ok (.iload_n 1, 1) := by decide +kernel
theorem dc_Mo_gene_46 : decode cd_Mo_gene 46 = .ok (.imul, 1) := by decide +kernel
theorem dc_Mo_gene_47 : decode cd_Mo_gene 47 = .ok (.iload_n 2, 1) := by decide +kernel
theorem dc_Mo_gene_48 : decode cd_Mo_gene 48 = .ok (.iadd, 1) := by decide +kernel
theorem dc_Mo_gene_49 : decode cd_Mo_gene 49 = .ok (.iaload, 1) := by decide +kernel
theorem dc_Mo_gene_50 : decode cd_Mo_gene 50 = .ok (.ireturn, 1) := by decide +kernel
theorem dc_Mo_copy_0 : decode cd_Mo_copy 0 = .ok (.aload_n 0, 1) := by decide +kernel
theorem dc_Mo_copy_1 : decode cd_Mo_copy 1 = .ok (.iload_n 1, 1) := by decide +kernel
theorem dc_Mo_copy_2 : decode cd_Mo_copy 2 = .ok (.invokestatic 87, 3) := by decide +kernel
theorem dc_Mo_copy_5 : decode cd_Mo_copy 5 = .ok (.ifCond .ne 10, 3) := by decide +kernel
theorem dc_Mo_copy_8 : decode cd_Mo_copy 8 = .ok (.iload_n 2, 1) := by decide +kernel
theorem dc_Mo_copy_9 : decode cd_Mo_copy 9 = .ok (.invokestatic 87, 3) := by decide +kernel
theorem dc_Mo_copy_12 : decode cd_Mo_copy 12 = .ok (.ifCond .eq 7, 3) := by decide +kernel
theorem dc_Mo_copy_15 : decode cd_Mo_copy 15 = .ok (.iconst 1, 1) := by decide +kernel
theorem dc_Mo_copy_16 : decode cd_Mo_copy 16 = .ok (.goto 4, 3) := by decide +kernel
theorem dc_Mo_copy_19 : decode cd_Mo_copy 19 = .ok (.iconst 0, 1) := by decide +kernel
theorem dc_Mo_copy_20 : decode cd_Mo_copy 20 = .ok (.putfield 75, 3) := by decide +kernel
theorem dc_Mo_copy_23 : decode cd_Mo_copy 23 = .ok (.iconst 0, 1) := by decide +kernel
theorem dc_Mo_copy_24 : decode cd_Mo_copy 24 = .ok (.istore_n 3, 1) := by decide +kernel
theorem dc_Mo_copy_25 : decode cd_Mo_copy 25 = .ok (.iload_n 3, 1) := by decide +kernel
theorem dc_Mo_copy_26 : decode cd_Mo_copy 26 = .ok (.aload_n 0, 1) := by decide +kernel
theorem dc_Mo_copy_27 : decode cd_Mo_copy 27 = .ok (.getfield 7, 3) := by decide +kernel
theorem dc_Mo_copy_30 : decode cd_Mo_copy 30 = .ok (.if_icmp .ge 38, 3) := by decide +kernel
theorem dc_Mo_copy_33 : decode cd_Mo_copy 33 = .ok (.aload_n 0, 1) := by decide +kernel
theorem dc_Mo_copy_34 : decode cd_Mo_copy 34 = .ok (.getfield 75, 3) := by decide +kernel
theorem dc_Mo_copy_37 : decode cd_Mo_copy 37 = .ok (.ifCond .ne 31, 3) := by decide +kernel
theorem dc_Mo_copy_40 : decode cd_Mo_copy 40 = .ok (.aload_n 0, 1) := by decide +kernel
theorem dc_Mo_copy_41 : decode cd_Mo_copy 41 = .ok (.getfield 13, 3) := by decide +kernel
theorem dc_Mo_copy_44 : decode cd_Mo_copy 44 = .ok (.bipush 6, 2) := by decide +kernel
theorem dc_Mo_copy_46 : decode cd_Mo_copy 46 = .ok (.iload_n 2, 1) := by decide +kernel
theorem dc_Mo_copy_47 : decode cd_Mo_copy 47 = .ok (.imul, 1) := by decide +kernel
theorem dc_Mo_copy_48 : decode cd_Mo_copy 48 = .ok (.iload_n 3, 1) := by decide +kernel
theorem dc_Mo_copy_49 : decode cd_Mo_copy 49 = .ok (.iadd, 1) := by decide +kernel
theorem dc_Mo_copy_50 : decode cd_Mo_copy 50 = .ok (.aload_n 0, 1) := by decide +kernel
theorem dc_Mo_copy_51 : decode cd_Mo_copy 51 = .ok (.getfield 13, 3) := by decide +kernel
theorem dc_Mo_copy_54 : decode cd_Mo_copy 54 = .ok (.bipush 6, 2) := by decide +kernel
theorem dc_Mo_copy_56 : decode cd_Mo_copy 56 = .ok (.iload_n 1, 1) := by decide +kernel
theorem dc_Mo_copy_57 : decode cd_Mo_copy 57 = .ok (.imul, 1) := by decide +kernel
theorem dc_Mo_copy_58 : decode cd_Mo_copy 58 = .ok (.iload_n 3, 1) := by decide +kernel
theorem dc_Mo_copy_59 : decode cd_Mo_copy 59 = .ok (.iadd, 1) := by decide +kernel
theorem dc_Mo_copy_60 : decode cd_Mo_copy 60 = .ok (.iaload, 1) := by decide +kernel
theorem dc_Mo_copy_61 : decode cd_Mo_copy 61 = .ok (.iastore, 1) := by decide +kernel
theorem dc_Mo_copy_62 : decode cd_Mo_copy 62 = .ok (.iinc 3 1, 3) := by decide +kernel
theorem dc_Mo_copy_65 : decode cd_Mo_copy 65 = .ok (.goto (-40), 3) := by decide +kernel
theorem dc_Mo_copy_68 : decode cd_Mo_copy 68 = .ok (.aload_n 0, 1) := by decide +kernel
theorem dc_Mo_copy_69 : decode cd_Mo_copy 69 = .ok (.getfield 75, 3) := by decide +kernel
theorem dc_Mo_copy_72 : decode cd_Mo_copy 72 = .ok (.ifCond .ne 10, 3) := by decide +kernel
theorem dc_Mo_copy_75 : decode cd_Mo_copy 75 = .ok (.aload_n 0, 1) := by decide +kernel
theorem dc_Mo_copy_76 : decode cd_Mo_copy 76 = .ok (.getfield 17, 3) := by decide +kernel
theorem dc_Mo_copy_79 : decode cd_Mo_copy 79 = .ok (.iload_n 2, 1) := by decide +kernel
theorem dc_Mo_copy_80 : decode cd_Mo_copy 80 = .ok (.iconst 0, 1) := by decide +kernel
theorem dc_Mo_copy_81 : decode cd_Mo_copy 81 = .ok (.iastore, 1) := by decide +kernel
theorem dc_Mo_copy_82 : decode cd_Mo_copy 82 = .ok (.return_, 1) := by decide +kernel
theorem dc_Mo_turn_0 : decode cd_Mo_turn 0 = .ok (.iconst 0, 1) := by decide +kernel
theorem dc_Mo_turn_1 : decode cd_Mo_turn 1 = .ok (.istore 4, 2) := by decide +kernel
theorem dc_Mo_turn_3 : decode cd_Mo_turn 3 = .ok (.iload 4, 2) := by decide +kernel
theorem dc_Mo_turn_5 : decode cd_Mo_turn 5 = .ok (.iload_n 3, 1) := by decide +kernel
theorem dc_Mo_turn_6 : decode cd_Mo_turn 6 = .ok (.iload_n 2, 1) := by decide +kernel
theorem dc_Mo_turn_7 : decode cd_Mo_turn 7 = .ok (.isub, 1) := by decide +kernel
theorem dc_Mo_turn_8 : decode cd_Mo_turn 8 = .ok (.if_icmp .gt 54, 3) := by decide +kernel
theorem dc_Mo_turn_11 : decode cd_Mo_turn 11 = .ok (.iload_n 1, 1) := by decide +kernel
theorem dc_Mo_turn_12 : decode cd_Mo_turn 12 = .ok (.iload_n 2, 1) := by decide +kernel
theorem dc_Mo_turn_13 : decode cd_Mo_turn 13 = .ok (.iadd, 1) := by decide +kernel
theorem dc_Mo_turn_14 : decode cd_Mo_turn 14 = .ok (.iload 4, 2) := by decide +kernel
theorem dc_Mo_turn_16 : decode cd_Mo_turn 16 = .ok (.iadd, 1) := by decide +kernel
theorem dc_Mo_turn_17 : decode cd_Mo_turn 17 = .ok (.istore 5, 2) := by decide +kernel
theorem dc_Mo_turn_19 : decode cd_Mo_turn 19 = .ok (.iload_n 1, 1) := by decide +kernel
theorem dc_Mo_turn_20 : decode cd_Mo_turn 20 = .ok (.iload_n 3, 1) := by decide +kernel
theorem dc_Mo_turn_21 : decode cd_Mo_turn 21 = .ok (.iadd, 1) := by decide +kernel
theorem dc_Mo_turn_22 : decode cd_Mo_turn 22 = .ok (.iload 4, 2) := by decide +kernel
theorem dc_Mo_turn_24 : decode cd_Mo_turn 24 = .ok (.isub, 1) := by decide +kernel
theorem dc_Mo_turn_25 : decode cd_Mo_turn 25 = .ok (.istore 6, 2) := by decide +kernel
theorem dc_Mo_turn_27 : decode cd_Mo_turn 27 = .ok (.iload 5, 2) := by decide +kernel
theorem dc_Mo_turn_29 : decode cd_Mo_turn 29 = .ok (.iload 6, 2) := by decide +kernel
theorem dc_Mo_turn_31 : decode cd_Mo_turn 31 = .ok (.if_icmp .gt 25, 3) := by decide +kernel
theorem dc_Mo_turn_34 : decode cd_Mo_turn 34 = .ok (.aload_n 0, 1) := by decide +kernel
theorem dc_Mo_turn_35 : decode cd_Mo_turn 35 = .ok (.iload 5, 2) := by decide +kernel
theorem dc_Mo_turn_37 : decode cd_Mo_turn 37 = .ok (.iaload, 1) := by decide +kernel
theorem dc_Mo_turn_38 : decode cd_Mo_turn 38 = .ok (.istore 7, 2) := by decide +kernel
theorem dc_Mo_turn_40 : decode cd_Mo_turn 40 = .ok (.aload_n 0, 1) := by decide +kernel
theorem dc_Mo_turn_41 : decode cd_Mo_turn 41 = .ok (.iload 5, 2) := by decide +kernel
theorem dc_Mo_turn_43 : decode cd_Mo_turn 43 = .ok (.aload_n 0, 1) := by decide +kernel
theorem dc_Mo_turn_44 : decode cd_Mo_turn 44 = .ok (.iload 6, 2) := by decide +kernel
theorem dc_Mo_turn_46 : decode cd_Mo_turn 46 = .ok (.iaload, 1) := by decide +kernel
theorem dc_Mo_turn_47 : decode cd_Mo_turn 47 = .ok (.ineg, 1) := by decide +kernel
theorem dc_Mo_turn_48 : decode cd_Mo_turn 48 = .ok (.iastore, 1) := by decide +kernel
theorem dc_Mo_turn_49 : decode cd_Mo_turn 49 = .ok (.aload_n 0, 1) := by decide +kernel
theorem dc_Mo_turn_50 : decode cd_Mo_turn 50 = .ok (.iload 6, 2) := by decide +kernel
theorem dc_Mo_turn_52 : decode cd_Mo_turn 52 = .ok (.iload 7, 2) := by decide +kernel
theorem dc_Mo_turn_54 : decode cd_Mo_turn 54 = .ok (.ineg, 1) := by decide +kernel
theorem dc_Mo_turn_55 : decode cd_Mo_turn 55 = .ok (.iastore, 1) := by decide +kernel
theorem dc_Mo_turn_56 : decode cd_Mo_turn 56 = .ok (.iinc 4 1, 3) := by decide +kernel
theorem dc_Mo_turn_59 : decode cd_Mo_turn 59 = .ok (.goto (-56), 3) := by decide +kernel
theorem dc_Mo_turn_62 : decode cd_Mo_turn 62 = .ok (.return_, 1) := by decide +kernel
theorem dc_Mo_reverse_0 : decode cd_Mo_reverse 0 = .ok (.aload_n 0, 1) := by decide +kernel
theorem dc_Mo_reverse_1 : decode cd_Mo_reverse 1 = .ok (.iload_n 1, 1) := by decide +kernel
theorem dc_Mo_reverse_2 : decode cd_Mo_reverse 2 = .ok (.invokestatic 87, 3) := by decide +kernel
theorem dc_Mo_reverse_5 : decode cd_Mo_reverse 5 = .ok (.ifCond .ne 20, 3) := by decide +kernel
theorem dc_Mo_reverse_8 : decode cd_Mo_reverse 8 = .ok (.iload_n 2, 1) := by decide +kernel
theorem dc_Mo_reverse_9 : decode cd_Mo_reverse 9 = .ok (.ifCond .lt 16, 3) := by decide +kernel
theorem dc_Mo_reverse_12 : decode cd_Mo_reverse 12 = .ok (.iload_n 3, 1) := by decide +kernel
theorem dc_Mo_reverse_13 : decode cd_Mo_reverse 13 = .ok (.aload_n 0, 1) := by decide +kernel
theorem dc_Mo_reverse_14 : decode cd_Mo_reverse 14 = .ok (.getfield 7, 3) := by decide +kernel
theorem dc_Mo_reverse_17 : decode cd_Mo_reverse 17 = .ok (.if_icmp .ge 8, 3) := by decide +kernel
theorem dc_Mo_reverse_20 : decode cd_Mo_reverse 20 = .ok (.iload_n 2, 1) := by decide +kernel
theorem dc_Mo_reverse_21 : decode cd_Mo_reverse 21 = .ok (.iload_n 3, 1) := by decide +kernel
theorem dc_Mo_reverse_22 : decode cd_Mo_reverse 22 = .ok (.if_icmp .le 7, 3) := by decide +kernel
theorem dc_Mo_reverse_25 : decode cd_Mo_reverse 25 = .ok (.iconst 1, 1) := by decide +kernel
theorem dc_Mo_reverse_26 : decode cd_Mo_reverse 26 = .ok (.goto 4, 3) := by decide +kernel
theorem dc_Mo_reverse_29 : decode cd_Mo_reverse 29 = .ok (.iconst 0, 1) := by decide +kernel
theorem dc_Mo_reverse_30 : decode cd_Mo_reverse 30 = .ok (.putfield 75, 3) := by decide +kernel
theorem dc_Mo_reverse_33 : decode cd_Mo_reverse 33 = .ok (.aload_n 0, 1) := by decide +kernel
theorem dc_Mo_reverse_34 : decode cd_Mo_reverse 34 = .ok (.getfield 75, 3) := by decide +kernel
theorem dc_Mo_reverse_37 : decode cd_Mo_reverse 37 = .ok (.ifCond .le 4, 3) := by decide +kernel
theorem dc_Mo_reverse_40 : decode cd_Mo_reverse 40 = .ok (.return_, 1) := by decide +kernel
theorem dc_Mo_reverse_41 : decode cd_Mo_reverse 41 = .ok (.aload_n 0, 1) := by decide +kernel
theorem dc_Mo_reverse_42 : decode cd_Mo_reverse 42 = .ok (.getfield 13, 3) := by decide +kernel
theorem dc_Mo_reverse_45 : decode cd_Mo_reverse 45 = .ok (.bipush 6, 2) := by decide +kernel
theorem dc_Mo_reverse_47 : decode cd_Mo_reverse 47 = .ok (.iload_n 1, 1) := by decide +kernel
theorem dc_Mo_reverse_48 : decode cd_Mo_reverse 48 = .ok (.imul, 1) := by decide +kernel
theorem dc_Mo_reverse_49 : decode cd_Mo_reverse 49 = .ok (.iload_n 2, 1) := by decide +kernel
theorem dc_Mo_reverse_50 : decode cd_Mo_reverse 50 = .ok (.iload_n 3, 1) := by decide +kernel
theorem dc_Mo_reverse_51 : decode cd_Mo_reverse 51 = .ok (.invokestatic 91, 3) := by decide +kernel
theorem dc_Mo_reverse_54 : decode cd_Mo_reverse 54 = .ok (.aload_n 0, 1) := by decide +kernel
theorem dc_Mo_reverse_55 : decode cd_Mo_reverse 55 = .ok (.getfield 17, 3) := by decide +kernel
theorem dc_Mo_reverse_58 : decode cd_Mo_reverse 58 = .ok (.iload_n 1, 1) := by decide +kernel
theorem dc_Mo_reverse_59 : decode cd_Mo_reverse 59 = .ok (.iaload, 1) := by decide +kernel
theorem dc_Mo_reverse_60 : decode cd_Mo_reverse 60 = .ok (.bipush 8, 2) := by decide +kernel
theorem dc_Mo_reverse_62 : decode cd_Mo_reverse 62 = .ok (.if_icmp .ne 55, 3) := by decide +kernel
theorem dc_Mo_reverse_65 : decode cd_Mo_reverse 65 = .ok (.iconst 0, 1) := by decide +kernel
theorem dc_Mo_reverse_66 : decode cd_Mo_reverse 66 = .ok (.istore 4, 2) := by decide +kernel
theorem dc_Mo_reverse_68 : decode cd_Mo_reverse 68 = .ok (.iload 4, 2) := by decide +kernel
theorem dc_Mo_reverse_70 : decode cd_Mo_reverse 70 = .ok (.bipush 7, 2) := by decide +kernel
theorem dc_Mo_reverse_72 : decode cd_Mo_reverse 72 = .ok (.if_icmp .ge 35, 3) := by decide +kernel
theorem dc_Mo_reverse_75 : decode cd_Mo_reverse 75 = .ok (.aload_n 0, 1) := by decide +kernel
theorem dc_Mo_reverse_76 : decode cd_Mo_reverse 76 = .ok (.getfield 20, 3) := by decide +kernel
theorem dc_Mo_reverse_79 : decode cd_Mo_reverse 79 = .ok (.bipush 8, 2) := by decide +kernel
theorem dc_Mo_reverse_81 : decode cd_Mo_reverse 81 = .ok (.iload_n 1, 1) := by decide +kernel
theorem dc_Mo_reverse_82 : decode cd_Mo_reverse 82 = .ok (.imul, 1) := by decide +kernel
theorem dc_Mo_reverse_83 : decode cd_Mo_reverse 83 = .ok (.iload 4, 2) := by decide +kernel
theorem dc_Mo_reverse_85 : decode cd_Mo_reverse 85 = .ok (.iadd, 1) := by decide +kernel
theorem dc_Mo_reverse_86 : decode cd_Mo_reverse 86 = .ok (.aload_n 0, 1) := by decide +kernel
theorem dc_Mo_reverse_87 : decode cd_Mo_reverse 87 = .ok (.getfield 20, 3) := by decide +kernel
theorem dc_Mo_reverse_90 : decode cd_Mo_reverse 90 = .ok (.bipush 8, 2) := by decide +kernel
theorem dc_Mo_reverse_92 : decode cd_Mo_reverse 92 = .ok (.iload_n 1, 1) := by decide +kernel
theorem dc_Mo_reverse_93 : decode cd_Mo_reverse 93 = .ok (.imul, 1) := by decide +kernel
theorem dc_Mo_reverse_94 : decode cd_Mo_reverse 94 = .ok (.iload 4, 2) := by decide +kernel
theorem dc_Mo_reverse_96 : decode cd_Mo_reverse 96 = .ok (.iadd, 1) := by decide +kernel
theorem dc_Mo_reverse_97 : decode cd_Mo_reverse 97 = .ok (.iconst 1, 1) := by decide +kernel
theorem dc_Mo_reverse_98 : decode cd_Mo_reverse 98 = .ok (.iadd, 1) := by decide +kernel
theorem dc_Mo_reverse_99 : decode cd_Mo_reverse 99 = .ok (.iaload, 1) := by decide +kernel
theorem dc_Mo_reverse_100 : decode cd_Mo_reverse 100 = .ok (.iastore, 1) := by decide +kernel
theorem dc_Mo_reverse_101 : decode cd_Mo_reverse 101 = .ok (.iinc 4 1, 3) := by decide +kernel
theorem dc_Mo_reverse_104 : decode cd_Mo_reverse 104 = .ok (.goto (-36), 3) := by decide +kernel
theorem dc_Mo_reverse_107 : decode cd_Mo_reverse 107 = .ok (.aload_n 0, 1) := by decide +kernel
theorem dc_Mo_reverse_108 : decode cd_Mo_reverse 108 = .ok (.getfield 17, 3) := by decide +kernel
theorem dc_Mo_reverse_111 : decode cd_Mo_reverse 111 = .ok (.iload_n 1, 1) := by decide +kernel
theorem dc_Mo_reverse_112 : decode cd_Mo_reverse 112 = .ok (.dup2, 1) := by decide +kernel
theorem dc_Mo_reverse_113 : decode cd_Mo_reverse 113 = .ok (.iaload, 1) := by decide +kernel
theorem dc_Mo_reverse_114 : decode cd_Mo_reverse 114 = .ok (.iconst 1, 1) := by decide +kernel
theorem dc_Mo_reverse_115 : decode cd_Mo_reverse 115 = .ok (.isub, 1) := by decide +kernel
theorem dc_Mo_reverse_116 : decode cd_Mo_reverse 116 = .ok (.iastore, 1) := by decide +kernel
theorem dc_Mo_reverse_117 : decode cd_Mo_reverse 117 = .ok (.aload_n 0, 1) := by decide +kernel
theorem dc_Mo_reverse_118 : decode cd_Mo_reverse 118 = .ok (.getfield 20, 3) := by decide +kernel
theorem dc_Mo_reverse_121 : decode cd_Mo_reverse 121 = .ok (.bipush 8, 2) := by decide +kernel
theorem dc_Mo_reverse_123 : decode cd_Mo_reverse 123 = .ok (.iload_n 1, 1) := by decide +kernel
theorem dc_Mo_reverse_124 : decode cd_Mo_reverse 124 = .ok (.imul, 1) := by decide +kernel
theorem dc_Mo_reverse_125 : decode cd_Mo_reverse 125 = .ok (.aload_n 0, 1) := by decide +kernel
theorem dc_Mo_reverse_126 : decode cd_Mo_reverse 126 = .ok (.getfield 17, 3) := by decide +kernel
theorem dc_Mo_reverse_129 : decode cd_Mo_reverse 129 = .ok (.iload_n 1, 1) := by decide +kernel
theorem dc_Mo_reverse_130 : decode cd_Mo_reverse 130 = .ok (.iaload, 1) := by decide +kernel
theorem dc_Mo_reverse_131 : decode cd_Mo_reverse 131 = .ok (.iadd, 1) := by decide +kernel
theorem dc_Mo_reverse_132 : decode cd_Mo_reverse 132 = .ok (.bipush 10, 2) := by decide +kernel
theorem dc_Mo_reverse_134 : decode cd_Mo_reverse 134 = .ok (.iload_n 2, 1) := by decide +kernel
theorem dc_Mo_reverse_135 : decode cd_Mo_reverse 135 = .ok (.imul, 1) := by decide +kernel
theorem dc_Mo_reverse_136 : decode cd_Mo_reverse 136 = .ok (.iload_n 3, 1) := by decide +kernel
theorem dc_Mo_reverse_137 : decode cd_Mo_reverse 137 = .ok (.iadd, 1) := by decide +kernel
theorem dc_Mo_reverse_138 : decode cd_Mo_reverse 138 = .ok (.iastore, 1) := by decide +kernel
theorem dc_Mo_reverse_139 : decode cd_Mo_reverse 139 = .ok (.aload_n 0, 1) := by decide +kernel
theorem dc_Mo_reverse_140 : decode cd_Mo_reverse 140 = .ok (.getfield 17, 3) := by decide +kernel
theorem dc_Mo_reverse_143 : decode cd_Mo_reverse 143 = .ok (.iload_n 1, 1) := by decide +kernel
theorem dc_Mo_reverse_144 : decode cd_Mo_reverse 144 = .ok (.dup2, 1) := by decide +kernel
theorem dc_Mo_reverse_145 : decode cd_Mo_reverse 145 = .ok (.iaload, 1) := by decide +kernel
theorem dc_Mo_reverse_146 : decode cd_Mo_reverse 146 = .ok (.iconst 1, 1) := by decide +kernel
theorem dc_Mo_reverse_147 : decode cd_Mo_reverse 147 = .ok (.iadd, 1) := by decide +kernel
theorem dc_Mo_reverse_148 : decode cd_Mo_reverse 148 = .ok (.iastore, 1) := by decide +kernel
theorem dc_Mo_reverse_149 : decode cd_Mo_reverse 149 = .ok (.return_, 1) := by decide +kernel
