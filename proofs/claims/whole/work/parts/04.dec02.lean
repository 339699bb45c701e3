theorem dc_Mo_undo_0 : decode cd_Mo_undo 0 = .ok (.aload_n 0, 1) := by decide +kernel
theorem dc_Mo_undo_1 : decode cd_Mo_undo 1 = .ok (.iload_n 1, 1) := by decide +kernel
theorem dc_Mo_undo_2 : decode cd_Mo_undo 2 = .ok (.invokestatic 87, 3) := by decide +kernel
theorem dc_Mo_undo_5 : decode cd_Mo_undo 5 = .ok (.ifCond .eq 7, 3) := by decide +kernel
theorem dc_Mo_undo_8 : decode cd_Mo_undo 8 = .ok (.iconst 1, 1) := by decide +kernel
theorem dc_Mo_undo_9 : decode cd_Mo_undo 9 = .ok (.goto 4, 3) := by decide +kernel
theorem dc_Mo_undo_12 : decode cd_Mo_undo 12 = .ok (.iconst 0, 1) := by decide +kernel
theorem dc_Mo_undo_13 : decode cd_Mo_undo 13 = .ok (.putfield 75, 3) := by decide +kernel
theorem dc_Mo_undo_16 : decode cd_Mo_undo 16 = .ok (.aload_n 0, 1) := by decide +kernel
theorem dc_Mo_undo_17 : decode cd_Mo_undo 17 = .ok (.getfield 75, 3) := by decide +kernel
theorem dc_Mo_undo_20 : decode cd_Mo_undo 20 = .ok (.ifCond .gt 12, 3) := by decide +kernel
theorem dc_Mo_undo_23 : decode cd_Mo_undo 23 = .ok (.aload_n 0, 1) := by decide +kernel
theorem dc_Mo_undo_24 : decode cd_Mo_undo 24 = .ok (.getfield 17, 3) := by decide +kernel
theorem dc_Mo_undo_27 : decode cd_Mo_undo 27 = .ok (.iload_n 1, 1) := by decide +kernel
theorem dc_Mo_undo_28 : decode cd_Mo_undo 28 = .ok (.iaload, 1) := by decide +kernel
theorem dc_Mo_undo_29 : decode cd_Mo_undo 29 = .ok (.ifCond .ne 5, 3) := by decide +kernel
theorem dc_Mo_undo_32 : decode cd_Mo_undo 32 = .ok (.iconst 0, 1) := by decide +kernel
theorem dc_Mo_undo_33 : decode cd_Mo_undo 33 = .ok (.ireturn, 1) := by decide +kernel
theorem dc_Mo_undo_34 : decode cd_Mo_undo 34 = .ok (.aload_n 0, 1) := by decide +kernel
theorem dc_Mo_undo_35 : decode cd_Mo_undo 35 = .ok (.getfield 17, 3) := by decide +kernel
theorem dc_Mo_undo_38 : decode cd_Mo_undo 38 = .ok (.iload_n 1, 1) := by decide +kernel
theorem dc_Mo_undo_39 : decode cd_Mo_undo 39 = .ok (.dup2, 1) := by decide +kernel
theorem dc_Mo_undo_40 : decode cd_Mo_undo 40 = .ok (.iaload, 1) := by decide +kernel
theorem dc_Mo_undo_41 : decode cd_Mo_undo 41 = .ok (.iconst 1, 1) := by decide +kernel
theorem dc_Mo_undo_42 : decode cd_Mo_undo 42 = .ok (.isub, 1) := by decide +kernel
theorem dc_Mo_undo_43 : decode cd_Mo_undo 43 = .ok (.iastore, 1) := by decide +kernel
theorem dc_Mo_undo_44 : decode cd_Mo_undo 44 = .ok (.aload_n 0, 1) := by decide +kernel
theorem dc_Mo_undo_45 : decode cd_Mo_undo 45 = .ok (.getfield 20, 3) := by decide +kernel
theorem dc_Mo_undo_48 : decode cd_Mo_undo 48 = .ok (.bipush 8, 2) := by decide +kernel
theorem dc_Mo_undo_50 : decode cd_Mo_undo 50 = .ok (.iload_n 1, 1) := by decide +kernel
theorem dc_Mo_undo_51 : decode cd_Mo_undo 51 = .ok (.imul, 1) := by decide +kernel
theorem dc_Mo_undo_52 : decode cd_Mo_undo 52 = .ok (.aload_n 0, 1) := by decide +kernel
theorem dc_Mo_undo_53 : decode cd_Mo_undo 53 = .ok (.getfield 17, 3) := by decide +kernel
theorem dc_Mo_undo_56 : decode cd_Mo_undo 56 = .ok (.iload_n 1, 1) := by decide +kernel
theorem dc_Mo_undo_57 : decode cd_Mo_undo 57 = .ok (.iaload, 1) := by decide +kernel
theorem dc_Mo_undo_58 : decode cd_Mo_undo 58 = .ok (.iadd, 1) := by decide +kernel
theorem dc_Mo_undo_59 : decode cd_Mo_undo 59 = .ok (.iaload, 1) := by decide +kernel
theorem dc_Mo_undo_60 : decode cd_Mo_undo 60 = .ok (.istore_n 2, 1) := by decide +kernel
theorem dc_Mo_undo_61 : decode cd_Mo_undo 61 = .ok (.aload_n 0, 1) := by decide +kernel
theorem dc_Mo_undo_62 : decode cd_Mo_undo 62 = .ok (.getfield 13, 3) := by decide +kernel
theorem dc_Mo_undo_65 : decode cd_Mo_undo 65 = .ok (.bipush 6, 2) := by decide +kernel
theorem dc_Mo_undo_67 : decode cd_Mo_undo 67 = .ok (.iload_n 1, 1) := by decide +kernel
theorem dc_Mo_undo_68 : decode cd_Mo_undo 68 = .ok (.imul, 1) := by decide +kernel
theorem dc_Mo_undo_69 : decode cd_Mo_undo 69 = .ok (.iload_n 2, 1) := by decide +kernel
theorem dc_Mo_undo_70 : decode cd_Mo_undo 70 = .ok (.bipush 10, 2) := by decide +kernel
theorem dc_Mo_undo_72 : decode cd_Mo_undo 72 = .ok (.idiv, 1) := by decide +kernel
theorem dc_Mo_undo_73 : decode cd_Mo_undo 73 = .ok (.iload_n 2, 1) := by decide +kernel
theorem dc_Mo_undo_74 : decode cd_Mo_undo 74 = .ok (.bipush 10, 2) := by decide +kernel
theorem dc_Mo_undo_76 : decode cd_Mo_undo 76 = .ok (.irem, 1) := by decide +kernel
theorem dc_Mo_undo_77 : decode cd_Mo_undo 77 = .ok (.invokestatic 91, 3) := by decide +kernel
theorem dc_Mo_undo_80 : decode cd_Mo_undo 80 = .ok (.iconst 1, 1) := by decide +kernel
theorem dc_Mo_undo_81 : decode cd_Mo_undo 81 = .ok (.ireturn, 1) := by decide +kernel
theorem dc_Mo_relate_0 : decode cd_Mo_relate 0 = .ok (.iconst 0, 1) := by decide +kernel
theorem dc_Mo_relate_1 : decode cd_Mo_relate 1 = .ok (.istore 5, 2) := by decide +kernel
theorem dc_Mo_relate_3 : decode cd_Mo_relate 3 = .ok (.iload 5, 2) := by decide +kernel
theorem dc_Mo_relate_5 : decode cd_Mo_relate 5 = .ok (.aload_n 0, 1) := by decide +kernel
theorem dc_Mo_relate_6 : decode cd_Mo_relate 6 = .ok (.getfield 7, 3) := by decide +kernel
theorem dc_Mo_relate_9 : decode cd_Mo_relate 9 = .ok (.if_icmp .ge 85, 3) := by decide +kernel
theorem dc_Mo_relate_12 : decode cd_Mo_relate 12 = .ok (.aload_n 1, 1) := by decide +kernel
theorem dc_Mo_relate_13 : decode cd_Mo_relate 13 = .ok (.iload_n 2, 1) := by decide +kernel
theorem dc_Mo_relate_14 : decode cd_Mo_relate 14 = .ok (.iload 5, 2) := by decide +kernel
theorem dc_Mo_relate_16 : decode cd_Mo_relate 16 = .ok (.iadd, 1) := by decide +kernel
theorem dc_Mo_relate_17 : decode cd_Mo_relate 17 = .ok (.iaload, 1) := by decide +kernel
theorem dc_Mo_relate_18 : decode cd_Mo_relate 18 = .ok (.istore 6, 2) := by decide +kernel
theorem dc_Mo_relate_20 : decode cd_Mo_relate 20 = .ok (.iconst 0, 1) := by decide +kernel
theorem dc_Mo_relate_21 : decode cd_Mo_relate 21 = .ok (.istore 7, 2) := by decide +kernel
theorem dc_Mo_relate_23 : decode cd_Mo_relate 23 = .ok (.iload 7, 2) := by decide +kernel
theorem dc_Mo_relate_25 : decode cd_Mo_relate 25 = .ok (.aload_n 0, 1) := by decide +kernel
theorem dc_Mo_relate_26 : decode cd_Mo_relate 26 = .ok (.getfield 7, 3) := by decide +kernel
theorem dc_Mo_relate_29 : decode cd_Mo_relate 29 = .ok (.if_icmp .ge 59, 3) := by decide +kernel
theorem dc_Mo_relate_32 : decode cd_Mo_relate 32 = .ok (.aload_n 3, 1) := by decide +kernel
theorem dc_Mo_relate_33 : decode cd_Mo_relate 33 = .ok (.iload 4, 2) := by decide +kernel
theorem dc_Mo_relate_35 : decode cd_Mo_relate 35 = .ok (.iload 7, 2) := by decide +kernel
theorem dc_Mo_relate_37 : decode cd_Mo_relate 37 = .ok (.iadd, 1) := by decide +kernel
theorem dc_Mo_relate_38 : decode cd_Mo_relate 38 = .ok (.iaload, 1) := by decide +kernel
theorem dc_Mo_relate_39 : decode cd_Mo_relate 39 = .ok (.istore 8, 2) := by decide +kernel
theorem dc_Mo_relate_41 : decode cd_Mo_relate 41 = .ok (.iload 6, 2) := by decide +kernel
theorem dc_Mo_relate_43 : decode cd_Mo_relate 43 = .ok (.iload 8, 2) := by decide +kernel
theorem dc_Mo_relate_45 : decode cd_Mo_relate 45 = .ok (.if_icmp .eq 11, 3) := by decide +kernel
theorem dc_Mo_relate_48 : decode cd_Mo_relate 48 = .ok (.iload 6, 2) := by decide +kernel
theorem dc_Mo_relate_50 : decode cd_Mo_relate 50 = .ok (.iload 8, 2) := by decide +kernel
theorem dc_Mo_relate_52 : decode cd_Mo_relate 52 = .ok (.ineg, 1) := by decide +kernel
theorem dc_Mo_relate_53 : decode cd_Mo_relate 53 = .ok (.if_icmp .ne 29, 3) := by decide +kernel
theorem dc_Mo_relate_56 : decode cd_Mo_relate 56 = .ok (.aload_n 0, 1) := by decide +kernel
theorem dc_Mo_relate_57 : decode cd_Mo_relate 57 = .ok (.getfield 45, 3) := by decide +kernel
theorem dc_Mo_relate_60 : decode cd_Mo_relate 60 = .ok (.iload 5, 2) := by decide +kernel
theorem dc_Mo_relate_62 : decode cd_Mo_relate 62 = .ok (.iload 6, 2) := by decide +kernel
theorem dc_Mo_relate_64 : decode cd_Mo_relate 64 = .ok (.iload 8, 2) := by decide +kernel
theorem dc_Mo_relate_66 : decode cd_Mo_relate 66 = .ok (.if_icmp .ne 10, 3) := by decide +kernel
theorem dc_Mo_relate_69 : decode cd_Mo_relate 69 = .ok (.iload 7, 2) := by decide +kernel
theorem dc_Mo_relate_71 : decode cd_Mo_relate 71 = .ok (.iconst 1, 1) := by decide +kernel
theorem dc_Mo_relate_72 : decode cd_Mo_relate 72 = .ok (.iadd, 1) := by decide +kernel
theorem dc_Mo_relate_73 : decode cd_Mo_relate 73 = .ok (.goto 8, 3) := by decide +kernel
theorem dc_Mo_relate_76 : decode cd_Mo_relate 76 = .ok (.iload 7, 2) := by decide +kernel
theorem dc_Mo_relate_78 : decode cd_Mo_relate 78 = .ok (.ineg, 1) := by decide +kernel
theorem dc_Mo_relate_79 : decode cd_Mo_relate 79 = .ok (.iconst 1, 1) := by decide +kernel
theorem dc_Mo_relate_80 : decode cd_Mo_relate 80 = .ok (.isub, 1) := by decide +kernel
theorem dc_Mo_relate_81 : decode cd_Mo_relate 81 = .ok (.iastore, 1) := by decide +kernel
theorem dc_Mo_relate_82 : decode cd_Mo_relate 82 = .ok (.iinc 7 1, 3) := by decide +kernel
theorem dc_Mo_relate_85 : decode cd_Mo_relate 85 = .ok (.goto (-62), 3) := by decide +kernel
theorem dc_Mo_relate_88 : decode cd_Mo_relate 88 = .ok (.iinc 5 1, 3) := by decide +kernel
theorem dc_Mo_relate_91 : decode cd_Mo_relate 91 = .ok (.goto (-88), 3) := by decide +kernel
theorem dc_Mo_relate_94 : decode cd_Mo_relate 94 = .ok (.return_, 1) := by decide +kernel
theorem dc_Mo_rankOf_0 : decode cd_Mo_rankOf 0 = .ok (.iconst 0, 1) := by decide +kernel
theorem dc_Mo_rankOf_1 : decode cd_Mo_rankOf 1 = .ok (.istore_n 2, 1) := by decide +kernel
theorem dc_Mo_rankOf_2 : decode cd_Mo_rankOf 2 = .ok (.iconst 0, 1) := by decide +kernel
theorem dc_Mo_rankOf_3 : decode cd_Mo_rankOf 3 = .ok (.istore_n 3, 1) := by decide +kernel
theorem dc_Mo_rankOf_4 : decode cd_Mo_rankOf 4 = .ok (.iconst 0, 1) := by decide +kernel
theorem dc_Mo_rankOf_5 : decode cd_Mo_rankOf 5 = .ok (.istore 4, 2) := by decide +kernel
theorem dc_Mo_rankOf_7 : decode cd_Mo_rankOf 7 = .ok (.iload 4, 2) := by decide +kernel
theorem dc_Mo_rankOf_9 : decode cd_Mo_rankOf 9 = .ok (.aload_n 0, 1) := by decide +kernel
theorem dc_Mo_rankOf_10 : decode cd_Mo_rankOf 10 = .ok (.getfield 7, 3) := by decide +kernel
theorem dc_Mo_rankOf_13 : decode cd_Mo_rankOf 13 = .ok (.if_icmp .ge 123, 3) := by decide +kernel
theorem dc_Mo_rankOf_16 : decode cd_Mo_rankOf 16 = .ok (.aload_n 1, 1) := by decide +kernel
theorem dc_Mo_rankOf_17 : decode cd_Mo_rankOf 17 = .ok (.iload 4, 2) := by decide +kernel
theorem dc_Mo_rankOf_19 : decode cd_Mo_rankOf 19 = .ok (.iaload, 1) := by decide +kernel
theorem dc_Mo_rankOf_20 : decode cd_Mo_rankOf 20 = .ok (.ifCond .ge 11, 3) := by decide +kernel
theorem dc_Mo_rankOf_23 : decode cd_Mo_rankOf 23 = .ok (.aload_n 1, 1) := by decide +kernel
theorem dc_Mo_rankOf_24 : decode cd_Mo_rankOf 24 = .ok (.iload 4, 2) := by decide +kernel
theorem dc_Mo_rankOf_26 : decode cd_Mo_rankOf 26 = .ok (.iaload, 1) := by decide +kernel
theorem dc_Mo_rankOf_27 : decode cd_Mo_rankOf 27 = .ok (.ineg, 1) := by decide +kernel
theorem dc_Mo_rankOf_28 : decode cd_Mo_rankOf 28 = .ok (.goto 7, 3) := by decide +kernel
theorem dc_Mo_rankOf_31 : decode cd_Mo_rankOf 31 = .ok (.aload_n 1, 1) := by decide +kernel
theorem dc_Mo_rankOf_32 : decode cd_Mo_rankOf 32 = .ok (.iload 4, 2) := by decide +kernel
theorem dc_Mo_rankOf_34 : decode cd_Mo_rankOf 34 = .ok (.iaload, 1) := by decide +kernel
theorem dc_Mo_rankOf_35 : decode cd_Mo_rankOf 35 = .ok (.istore 5, 2) := by decide +kernel
theorem dc_Mo_rankOf_37 : decode cd_Mo_rankOf 37 = .ok (.iconst 0, 1) := by decide +kernel
theorem dc_Mo_rankOf_38 : decode cd_Mo_rankOf 38 = .ok (.istore 6, 2) := by decide +kernel
theorem dc_Mo_rankOf_40 : decode cd_Mo_rankOf 40 = .ok (.iload 4, 2) := by decide +kernel
theorem dc_Mo_rankOf_42 : decode cd_Mo_rankOf 42 = .ok (.iconst 1, 1) := by decide +kernel
theorem dc_Mo_rankOf_43 : decode cd_Mo_rankOf 43 = .ok (.iadd, 1) := by decide +kernel
theorem dc_Mo_rankOf_44 : decode cd_Mo_rankOf 44 = .ok (.istore 7, 2) := by decide +kernel
theorem dc_Mo_rankOf_46 : decode cd_Mo_rankOf 46 = .ok (.iload 7, 2) := by decide +kernel
theorem dc_Mo_rankOf_48 : decode cd_Mo_rankOf 48 = .ok (.aload_n 0, 1) := by decide +kernel
theorem dc_Mo_rankOf_49 : decode cd_Mo_rankOf 49 = .ok (.getfield 7, 3) := by decide +kernel
theorem dc_Mo_rankOf_52 : decode cd_Mo_rankOf 52 = .ok (.if_icmp .ge 48, 3) := by decide +kernel
theorem dc_Mo_rankOf_55 : decode cd_Mo_rankOf 55 = .ok (.aload_n 1, 1) := by decide +kernel
theorem dc_Mo_rankOf_56 : decode cd_Mo_rankOf 56 = .ok (.iload 7, 2) := by decide +kernel
theorem dc_Mo_rankOf_58 : decode cd_Mo_rankOf 58 = .ok (.iaload, 1) := by decide +kernel
theorem dc_Mo_rankOf_59 : decode cd_Mo_rankOf 59 = .ok (.ifCond .ge 11, 3) := by decide +kernel
theorem dc_Mo_rankOf_62 : decode cd_Mo_rankOf 62 = .ok (.aload_n 1, 1) := by decide +kernel
theorem dc_Mo_rankOf_63 : decode cd_Mo_rankOf 63 = .ok (.iload 7, 2) := by decide +kernel
theorem dc_Mo_rankOf_65 : decode cd_Mo_rankOf 65 = .ok (.iaload, 1) := by decide +kernel
theorem dc_Mo_rankOf_66 : decode cd_Mo_rankOf 66 = .ok (.ineg, 1) := by decide +kernel
theorem dc_Mo_rankOf_67 : decode cd_Mo_rankOf 67 = .ok (.goto 7, 3) := by decide +kernel
theorem dc_Mo_rankOf_70 : decode cd_Mo_rankOf 70 = .ok (.aload_n 1, 1) := by decide +kernel
theorem dc_Mo_rankOf_71 : decode cd_Mo_rankOf 71 = .ok (.iload 7, 2) := by decide +kernel
theorem dc_Mo_rankOf_73 : decode cd_Mo_rankOf 73 = .ok (.iaload, 1) := by decide +kernel
theorem dc_Mo_rankOf_74 : decode cd_Mo_rankOf 74 = .ok (.istore 8, 2) := by decide +kernel
theorem dc_Mo_rankOf_76 : decode cd_Mo_rankOf 76 = .ok (.iload 8, 2) := by decide +kernel
theorem dc_Mo_rankOf_78 : decode cd_Mo_rankOf 78 = .ok (.iload 5, 2) := by decide +kernel
theorem dc_Mo_rankOf_80 : decode cd_Mo_rankOf 80 = .ok (.if_icmp .ge 10, 3) := by decide +kernel
theorem dc_Mo_rankOf_83 : decode cd_Mo_rankOf 83 = .ok (.iload 6, 2) := by decide +kernel
theorem dc_Mo_rankOf_85 : decode cd_Mo_rankOf 85 = .ok (.iconst 1, 1) := by decide +kernel
theorem dc_Mo_rankOf_86 : decode cd_Mo_rankOf 86 = .ok (.iadd, 1) := by decide +kernel
theorem dc_Mo_rankOf_87 : decode cd_Mo_rankOf 87 = .ok (.goto 5, 3) := by decide +kernel
theorem dc_Mo_rankOf_90 : decode cd_Mo_rankOf 90 = .ok (.iload 6, 2) := by decide +kernel
theorem dc_Mo_rankOf_92 : decode cd_Mo_rankOf 92 = .ok (.istore 6, 2) := by decide +kernel
theorem dc_Mo_rankOf_94 : decode cd_Mo_rankOf 94 = .ok (.iinc 7 1, 3) := by decide +kernel
theorem dc_Mo_rankOf_97 : decode cd_Mo_rankOf 97 = .ok (.goto (-51), 3) := by decide +kernel
theorem dc_Mo_rankOf_100 : decode cd_Mo_rankOf 100 = .ok (.iload_n 2, 1) := by decide +kernel
theorem dc_Mo_rankOf_101 : decode cd_Mo_rankOf 101 = .ok (.aload_n 0, 1) := by decide +kernel
theorem dc_Mo_rankOf_102 : decode cd_Mo_rankOf 102 = .ok (.getfield 7, 3) := by decide +kernel
theorem dc_Mo_rankOf_105 : decode cd_Mo_rankOf 105 = .ok (.iload 4, 2) := by decide +kernel
theorem dc_Mo_rankOf_107 : decode cd_Mo_rankOf 107 = .ok (.isub, 1) := by decide +kernel
theorem dc_Mo_rankOf_108 : decode cd_Mo_rankOf 108 = .ok (.imul, 1) := by decide +kernel
theorem dc_Mo_rankOf_109 : decode cd_Mo_rankOf 109 = .ok (.iload 6, 2) := by decide +kernel
theorem dc_Mo_rankOf_111 : decode cd_Mo_rankOf 111 = .ok (.iadd, 1) := by decide +kernel
theorem dc_Mo_rankOf_112 : decode cd_Mo_rankOf 112 = .ok (.istore_n 2, 1) := by decide +kernel
theorem dc_Mo_rankOf_113 : decode cd_Mo_rankOf 113 = .ok (.iload_n 3, 1) := by decide +kernel
theorem dc_Mo_rankOf_114 : decode cd_Mo_rankOf 114 = .ok (.iconst 2, 1) := by decide +kernel
theorem dc_Mo_rankOf_115 : decode cd_Mo_rankOf 115 = .ok (.imul, 1) := by decide +kernel
theorem dc_Mo_rankOf_116 : decode cd_Mo_rankOf 116 = .ok (.aload_n 1, 1) := by decide +kernel
theorem dc_Mo_rankOf_117 : decode cd_Mo_rankOf 117 = .ok (.iload 4, 2) := by decide +kernel
theorem dc_Mo_rankOf_119 : decode cd_Mo_rankOf 119 = .ok (.iaload, 1) := by decide +kernel
theorem dc_Mo_rankOf_120 : decode cd_Mo_rankOf 120 = .ok (.ifCond .ge 7, 3) := by decide +kernel
theorem dc_Mo_rankOf_123 : decode cd_Mo_rankOf 123 = .ok (.iconst 1, 1) := by decide +kernel
theorem dc_Mo_rankOf_124 : decode cd_Mo_rankOf 124 = .ok (.goto 4, 3) := by decide +kernel
theorem dc_Mo_rankOf_127 : decode cd_Mo_rankOf 127 = .ok (.iconst 0, 1) := by decide +kernel
theorem dc_Mo_rankOf_128 : decode cd_Mo_rankOf 128 = .ok (.iadd, 1) := by decide +kernel
theorem dc_Mo_rankOf_129 : decode cd_Mo_rankOf 129 = .ok (.istore_n 3, 1) := by decide +kernel
theorem dc_Mo_rankOf_130 : decode cd_Mo_rankOf 130 = .ok (.iinc 4 1, 3) := by decide +kernel
theorem dc_Mo_rankOf_133 : decode cd_Mo_rankOf 133 = .ok (.goto (-126), 3) := by decide +kernel
theorem dc_Mo_rankOf_136 : decode cd_Mo_rankOf 136 = .ok (.iload_n 2, 1) := by decide +kernel
theorem dc_Mo_rankOf_137 : decode cd_Mo_rankOf 137 = .ok (.aload_n 0, 1) := by decide +kernel
theorem dc_Mo_rankOf_138 : decode cd_Mo_rankOf 138 = .ok (.getfield 7, 3) := by decide +kernel
theorem dc_Mo_rankOf_141 : decode cd_Mo_rankOf 141 = .ok (.ishl, 1) := by decide +kernel
theorem dc_Mo_rankOf_142 : decode cd_Mo_rankOf 142 = .ok (.iload_n 3, 1) := by decide +kernel
theorem dc_Mo_rankOf_143 : decode cd_Mo_rankOf 143 = .ok (.iadd, 1) := by decide +kernel
theorem dc_Mo_rankOf_144 : decode cd_Mo_rankOf 144 = .ok (.ireturn, 1) := by decide +kernel
theorem dc_Mo_unrank_0 : decode cd_Mo_unrank 0 = .ok (.iload_n 1, 1) := by decide +kernel
theorem dc_Mo_unrank_1 : decode cd_Mo_unrank 1 = .ok (.aload_n 0, 1) := by decide +kernel
theorem dc_Mo_unrank_2 : decode cd_Mo_unrank 2 = .ok (.getfield 7, 3) := by decide +kernel
theorem dc_Mo_unrank_5 : decode cd_Mo_unrank 5 = .ok (.ishr, 1) := by decide +kernel
theorem dc_Mo_unrank_6 : decode cd_Mo_unrank 6 = .ok (.istore_n 3, 1) := by decide +kernel
theorem dc_Mo_unrank_7 : decode cd_Mo_unrank 7 = .ok (.iconst 0, 1) := by decide +kernel
theorem dc_Mo_unrank_8 : decode cd_Mo_unrank 8 = .ok (.istore 4, 2) := by decide +kernel
theorem dc_Mo_unrank_10 : decode cd_Mo_unrank 10 = .ok (.iconst 1, 1) := by decide +kernel
theorem dc_Mo_unrank_11 : decode cd_Mo_unrank 11 = .ok (.istore 5, 2) := by decide +kernel
theorem dc_Mo_unrank_13 : decode cd_Mo_unrank 13 = .ok (.iconst 2, 1) := by decide +kernel
theorem dc_Mo_unrank_14 : decode cd_Mo_unrank 14 = .ok (.istore 6, 2) := by decide +kernel
theorem dc_Mo_unrank_16 : decode cd_Mo_unrank 16 = .ok (.iload 6, 2) := by decide +kernel
theorem dc_Mo_unrank_18 : decode cd_Mo_unrank 18 = .ok (.aload_n 0, 1) := by decide +kernel
theorem dc_Mo_unrank_19 : decode cd_Mo_unrank 19 = .ok (.getfield 7, 3) := by decide +kernel
theorem dc_Mo_unrank_22 : decode cd_Mo_unrank 22 = .ok (.if_icmp .ge 16, 3) := by decide +kernel
theorem dc_Mo_unrank_25 : decode cd_Mo_unrank 25 = .ok (.iload 5, 2) := by decide +kernel
theorem dc_Mo_unrank_27 : decode cd_Mo_unrank 27 = .ok (.iload 6, 2) := by decide +kernel
theorem dc_Mo_unrank_29 : decode cd_Mo_unrank 29 = .ok (.imul, 1) := by decide +kernel
theorem dc_Mo_unrank_30 : decode cd_Mo_unrank 30 = .ok (.istore 5, 2) := by decide +kernel
theorem dc_Mo_unrank_32 : decode cd_Mo_unrank 32 = .ok (.iinc 6 1, 3) := by decide +kernel
theorem dc_Mo_unrank_35 : decode cd_Mo_unrank 35 = .ok (.goto (-19), 3) := by decide +kernel
theorem dc_Mo_unrank_38 : decode cd_Mo_unrank 38 = .ok (.iconst 0, 1) := by decide +kernel
theorem dc_Mo_unrank_39 : decode cd_Mo_unrank 39 = .ok (.istore 6, 2) := by decide +kernel
theorem dc_Mo_unrank_41 : decode cd_Mo_unrank 41 = .ok (.iload 6, 2) := by decide +kernel
theorem dc_Mo_unrank_43 : decode cd_Mo_unrank 43 = .ok (.aload_n 0, 1) := by decide +kernel
theorem dc_Mo_unrank_44 : decode cd_Mo_unrank 44 = .ok (.getfield 7, 3) := by decide +kernel
theorem dc_Mo_unrank_47 : decode cd_Mo_unrank 47 = .ok (.if_icmp .ge 146, 3) := by decide +kernel
theorem dc_Mo_unrank_50 : decode cd_Mo_unrank 50 = .ok (.iload_n 3, 1) := by decide +kernel
theorem dc_Mo_unrank_51 : decode cd_Mo_unrank 51 = .ok (.iload 5, 2) := by decide +kernel
theorem dc_Mo_unrank_53 : decode cd_Mo_unrank 53 = .ok (.idiv, 1) := by decide +kernel
theorem dc_Mo_unrank_54 : decode cd_Mo_unrank 54 = .ok (.istore 7, 2) := by decide +kernel
theorem dc_Mo_unrank_56 : decode cd_Mo_unrank 56 = .ok (.iload_n 3, 1) := by decide +kernel
theorem dc_Mo_unrank_57 : decode cd_Mo_unrank 57 = .ok (.iload 5, 2) := by decide +kernel
theorem dc_Mo_unrank_59 : decode cd_Mo_unrank 59 = .ok (.irem, 1) := by decide +kernel
theorem dc_Mo_unrank_60 : decode cd_Mo_unrank 60 = .ok (.istore_n 3, 1) := by decide +kernel
theorem dc_Mo_unrank_61 : decode cd_Mo_unrank 61 = .ok (.iload 6, 2) := by decide +kernel
theorem dc_Mo_unrank_63 : decode cd_Mo_unrank 63 = .ok (.iconst 1, 1) := by decide +kernel
theorem dc_Mo_unrank_64 : decode cd_Mo_unrank 64 = .ok (.iadd, 1) := by decide +kernel
theorem dc_Mo_unrank_65 : decode cd_Mo_unrank 65 = .ok (.aload_n 0, 1) := by decide +kernel
theorem dc_Mo_unrank_66 : decode cd_Mo_unrank 66 = .ok (.getfield 7, 3) := by decide +kernel
theorem dc_Mo_unrank_69 : decode cd_Mo_unrank 69 = .ok (.if_icmp .ge 30, 3) := by decide +kernel
theorem dc_Mo_unrank_72 : decode cd_Mo_unrank 72 = .ok (.aload_n 0, 1) := by decide +kernel
theorem dc_Mo_unrank_73 : decode cd_Mo_unrank 73 = .ok (.getfield 7, 3) := by decide +kernel
theorem dc_Mo_unrank_76 : decode cd_Mo_unrank 76 = .ok (.iconst 1, 1) := by decide +kernel
theorem dc_Mo_unrank_77 : decode cd_Mo_unrank 77 = .ok (.isub, 1) := by decide +kernel
theorem dc_Mo_unrank_78 : decode cd_Mo_unrank 78 = .ok (.iload 6, 2) := by decide +kernel
theorem dc_Mo_unrank_80 : decode cd_Mo_unrank 80 = .ok (.isub, 1) := by decide +kernel
theorem dc_Mo_unrank_81 : decode cd_Mo_unrank 81 = .ok (.ifCond .le 18, 3) := by decide +kernel
theorem dc_Mo_unrank_84 : decode cd_Mo_unrank 84 = .ok (.iload 5, 2) := by decide +kernel
theorem dc_Mo_unrank_86 : decode cd_Mo_unrank 86 = .ok (.aload_n 0, 1) := by decide +kernel
theorem dc_Mo_unrank_87 : decode cd_Mo_unrank 87 = .ok (.getfield 7, 3) := by decide +kernel
theorem dc_Mo_unrank_90 : decode cd_Mo_unrank 90 = .ok (.iconst 1, 1) := by decide +kernel
theorem dc_Mo_unrank_91 : decode cd_Mo_unrank 91 = .ok (.isub, 1) := by decide +kernel
theorem dc_Mo_unrank_92 : decode cd_Mo_unrank 92 = .ok (.iload 6, 2) := by decide +kernel
theorem dc_Mo_unrank_94 : decode cd_Mo_unrank 94 = .ok (.isub, 1) := by decide +kernel
theorem dc_Mo_unrank_95 : decode cd_Mo_unrank 95 = .ok (.idiv, 1) := by decide +kernel
theorem dc_Mo_unrank_96 : decode cd_Mo_unrank 96 = .ok (.goto 4, 3) := by decide +kernel
theorem dc_Mo_unrank_99 : decode cd_Mo_unrank 99 = .ok (.iconst 1, 1) := by decide +kernel
theorem dc_Mo_unrank_100 : decode cd_Mo_unrank 100 = .ok (.istore 5, 2) := by decide +kernel
theorem dc_Mo_unrank_102 : decode cd_Mo_unrank 102 = .ok (.iconst 1, 1) := by decide +kernel
theorem dc_Mo_unrank_103 : decode cd_Mo_unrank 103 = .ok (.istore 8, 2) := by decide +kernel
theorem dc_Mo_unrank_105 : decode cd_Mo_unrank 105 = .ok (.iload 4, 2) := by decide +kernel
theorem dc_Mo_unrank_107 : decode cd_Mo_unrank 107 = .ok (.iload 8, 2) := by decide +kernel
theorem dc_Mo_unrank_109 : decode cd_Mo_unrank 109 = .ok (.ishr, 1) := by decide +kernel
theorem dc_Mo_unrank_110 : decode cd_Mo_unrank 110 = .ok (.iconst 1, 1) := by decide +kernel
theorem dc_Mo_unrank_111 : decode cd_Mo_unrank 111 = .ok (.iand, 1) := by decide +kernel
theorem dc_Mo_unrank_112 : decode cd_Mo_unrank 112 = .ok (.iconst 1, 1) := by decide +kernel
theorem dc_Mo_unrank_113 : decode cd_Mo_unrank 113 = .ok (.if_icmp .eq 8, 3) := by decide +kernel
theorem dc_Mo_unrank_116 : decode cd_Mo_unrank 116 = .ok (.iload 7, 2) := by decide +kernel
theorem dc_Mo_unrank_118 : decode cd_Mo_unrank 118 = .ok (.ifCond .le 31, 3) := by decide +kernel
theorem dc_Mo_unrank_121 : decode cd_Mo_unrank 121 = .ok (.iload 4, 2) := by decide +kernel
theorem dc_Mo_unrank_123 : decode cd_Mo_unrank 123 = .ok (.iload 8, 2) := by decide +kernel
theorem dc_Mo_unrank_125 : decode cd_Mo_unrank 125 = .ok (.ishr, 1) := by decide +kernel
theorem dc_Mo_unrank_126 : decode cd_Mo_unrank 126 = .ok (.iconst 1, 1) := by decide +kernel
theorem dc_Mo_unrank_127 : decode cd_Mo_unrank 127 = .ok (.iand, 1) := by decide +kernel
theorem dc_Mo_unrank_128 : decode cd_Mo_unrank 128 = .ok (.iconst 1, 1) := by decide +kernel
theorem dc_Mo_unrank_129 : decode cd_Mo_unrank 129 = .ok (.if_icmp .ne 8, 3) := by decide +kernel
theorem dc_Mo_unrank_132 : decode cd_Mo_unrank 132 = .ok (.iload 7, 2) := by decide +kernel
theorem dc_Mo_unrank_134 : decode cd_Mo_unrank 134 = .ok (.goto 7, 3) := by decide +kernel
theorem dc_Mo_unrank_137 : decode cd_Mo_unrank 137 = .ok (.iload 7, 2) := by decide +kernel
theorem dc_Mo_unrank_139 : decode cd_Mo_unrank 139 = .ok (.iconst 1, 1) := by decide +kernel
theorem dc_Mo_unrank_140 : decode cd_Mo_unrank 140 = .ok (.isub, 1) := by decide +kernel
theorem dc_Mo_unrank_141 : decode cd_Mo_unrank 141 = .ok (.istore 7, 2) := by decide +kernel
theorem dc_Mo_unrank_143 : decode cd_Mo_unrank 143 = .ok (.iinc 8 1, 3) := by decide +kernel
theorem dc_Mo_unrank_146 : decode cd_Mo_unrank 146 = .ok (.goto (-41), 3) := by decide +kernel
theorem dc_Mo_unrank_149 : decode cd_Mo_unrank 149 = .ok (.iload 4, 2) := by decide +kernel
theorem dc_Mo_unrank_151 : decode cd_Mo_unrank 151 = .ok (.iconst 1, 1) := by decide +kernel
theorem dc_Mo_unrank_152 : decode cd_Mo_unrank 152 = .ok (.iload 8, 2) := by decide +kernel
theorem dc_Mo_unrank_154 : decode cd_Mo_unrank 154 = .ok (.ishl, 1) := by decide +kernel
theorem dc_Mo_unrank_155 : decode cd_Mo_unrank 155 = .ok (.ior, 1) := by decide +kernel
theorem dc_Mo_unrank_156 : decode cd_Mo_unrank 156 = .ok (.istore 4, 2) := by decide +kernel
theorem dc_Mo_unrank_158 : decode cd_Mo_unrank 158 = .ok (.aload_n 2, 1) := by decide +kernel
theorem dc_Mo_unrank_159 : decode cd_Mo_unrank 159 = .ok (.iload 6, 2) := by decide +kernel
theorem dc_Mo_unrank_161 : decode cd_Mo_unrank 161 = .ok (.iload_n 1, 1) := by decide +kernel
theorem dc_Mo_unrank_162 : decode cd_Mo_unrank 162 = .ok (.aload_n 0, 1) := by decide +kernel
theorem dc_Mo_unrank_163 : decode cd_Mo_unrank 163 = .ok (.getfield 7, 3) := by decide +kernel
theorem dc_Mo_unrank_166 : decode cd_Mo_unrank 166 = .ok (.iconst 1, 1) := by decide +kernel
theorem dc_Mo_unrank_167 : decode cd_Mo_unrank 167 = .ok (.isub, 1) := by decide +kernel
theorem dc_Mo_unrank_168 : decode cd_Mo_unrank 168 = .ok (.iload 6, 2) := by decide +kernel
theorem dc_Mo_unrank_170 : decode cd_Mo_unrank 170 = .ok (.isub, 1) := by decide +kernel
theorem dc_Mo_unrank_171 : decode cd_Mo_unrank 171 = .ok (.ishr, 1) := by decide +kernel
theorem dc_Mo_unrank_172 : decode cd_Mo_unrank 172 = .ok (.iconst 1, 1) := by decide +kernel
theorem dc_Mo_unrank_173 : decode cd_Mo_unrank 173 = .ok (.iand, 1) := by decide +kernel
theorem dc_Mo_unrank_174 : decode cd_Mo_unrank 174 = .ok (.iconst 1, 1) := by decide +kernel
theorem dc_Mo_unrank_175 : decode cd_Mo_unrank 175 = .ok (.if_icmp .ne 9, 3) := by decide +kernel
theorem dc_Mo_unrank_178 : decode cd_Mo_unrank 178 = .ok (.iload 8, 2) := by decide +kernel
theorem dc_Mo_unrank_180 : decode cd_Mo_unrank 180 = .ok (.ineg, 1) := by decide +kernel
theorem dc_Mo_unrank_181 : decode cd_Mo_unrank 181 = .ok (.goto 5, 3) := by decide +kernel
theorem dc_Mo_unrank_184 : decode cd_Mo_unrank 184 = .ok (.iload 8, 2) := by decide +kernel
theorem dc_Mo_unrank_186 : decode cd_Mo_unrank 186 = .ok (.iastore, 1) := by decide +kernel
theorem dc_Mo_unrank_187 : decode cd_Mo_unrank 187 = .ok (.iinc 6 1, 3) := by decide +kernel
theorem dc_Mo_unrank_190 : decode cd_Mo_unrank 190 = .ok (.goto (-149), 3) := by decide +kernel
theorem dc_Mo_unrank_193 : decode cd_Mo_unrank 193 = .ok (.return_, 1) := by decide +kernel
theorem dc_Mo_orderCount_0 : decode cd_Mo_orderCount 0 = .ok (.iconst 1, 1) := by decide +kernel
theorem dc_Mo_orderCount_1 : decode cd_Mo_orderCount 1 = .ok (.istore_n 1, 1) := by decide +kernel
theorem dc_Mo_orderCount_2 : decode cd_Mo_orderCount 2 = .ok (.iconst 1, 1) := by decide +kernel
theorem dc_Mo_orderCount_3 : decode cd_Mo_orderCount 3 = .ok (.istore_n 2, 1) := by decide +kernel
theorem dc_Mo_orderCount_4 : decode cd_Mo_orderCount 4 = .ok (.iload_n 2, 1) := by decide +kernel
theorem dc_Mo_orderCount_5 : decode cd_Mo_orderCount 5 = .ok (.aload_n 0, 1) := by decide +kernel
theorem dc_Mo_orderCount_6 : decode cd_Mo_orderCount 6 = .ok (.getfield 7, 3) := by decide +kernel
theorem dc_Mo_orderCount_9 : decode cd_Mo_orderCount 9 = .ok (.if_icmp .gt 15, 3) := by decide +kernel
theorem dc_Mo_orderCount_12 : decode cd_Mo_orderCount 12 = .ok (.iload_n 1, 1) := by decide +kernel
theorem dc_Mo_orderCount_13 : decode cd_Mo_orderCount 13 = .ok (.iconst 2, 1) := by decide +kernel
theorem dc_Mo_orderCount_14 : decode cd_Mo_orderCount 14 = .ok (.imul, 1) := by decide +kernel
theorem dc_Mo_orderCount_15 : decode cd_Mo_orderCount 15 = .ok (.iload_n 2, 1) := by decide +kernel
theorem dc_Mo_orderCount_16 : decode cd_Mo_orderCount 16 = .ok (.imul, 1) := by decide +kernel
theorem dc_Mo_orderCount_17 : decode cd_Mo_orderCount 17 = .ok (.istore_n 1, 1) := by decide +kernel
theorem dc_Mo_orderCount_18 : decode cd_Mo_orderCount 18 = .ok (.iinc 2 1, 3) := by decide +kernel
theorem dc_Mo_orderCount_21 : decode cd_Mo_orderCount 21 = .ok (.goto (-17), 3) := by decide +kernel
theorem dc_Mo_orderCount_24 : decode cd_Mo_orderCount 24 = .ok (.iload_n 1, 1) := by decide +kernel
theorem dc_Mo_orderCount_25 : decode cd_Mo_orderCount 25 = .ok (.ireturn, 1) := by decide +kernel
theorem dc_Mo_makeTable_0 : decode cd_Mo_makeTable 0 = .ok (.aload_n 0, 1) := by decide +kernel
theorem dc_Mo_makeTable_1 : decode cd_Mo_makeTable 1 = .ok (.iconst 0, 1) := by decide +kernel
theorem dc_Mo_makeTable_2 : decode cd_Mo_makeTable 2 = .ok (.putfield 95, 3) := by decide +kernel
theorem dc_Mo_makeTable_5 : decode cd_Mo_makeTable 5 = .ok (.iconst 1, 1) := by decide +kernel
theorem dc_Mo_makeTable_6 : decode cd_Mo_makeTable 6 = .ok (.istore_n 1, 1) := by decide +kernel
theorem dc_Mo_makeTable_7 : decode cd_Mo_makeTable 7 = .ok (.iconst 1, 1) := by decide +kernel
theorem dc_Mo_makeTable_8 : decode cd_Mo_makeTable 8 = .ok (.istore_n 2, 1) := by decide +kernel
theorem dc_Mo_makeTable_9 : decode cd_Mo_makeTable 9 = .ok (.iload_n 2, 1) := by decide +kernel
theorem dc_Mo_makeTable_10 : decode cd_Mo_makeTable 10 = .ok (.aload_n 0, 1) := by decide +kernel
theorem dc_Mo_makeTable_11 : decode cd_Mo_makeTable 11 = .ok (.getfield 7, 3) := by decide +kernel
theorem dc_Mo_makeTable_14 : decode cd_Mo_makeTable 14 = .ok (.if_icmp .ge 25, 3) := by decide +kernel
theorem dc_Mo_makeTable_17 : decode cd_Mo_makeTable 17 = .ok (.iload_n 1, 1) := by decide +kernel
theorem dc_Mo_makeTable_18 : decode cd_Mo_makeTable 18 = .ok (.iconst 2, 1) := by decide +kernel
theorem dc_Mo_makeTable_19 : decode cd_Mo_makeTable 19 = .ok (.imul, 1) := by decide +kernel
theorem dc_Mo_makeTable_20 : decode cd_Mo_makeTable 20 = .ok (.iload_n 2, 1) := by decide +kernel
theorem dc_Mo_makeTable_21 : decode cd_Mo_makeTable 21 = .ok (.imul, 1) := by decide +kernel
theorem dc_Mo_makeTable_22 : decode cd_Mo_makeTable 22 = .ok (.istore_n 1, 1) := by decide +kernel
theorem dc_Mo_makeTable_23 : decode cd_Mo_makeTable 23 = .ok (.aload_n 0, 1) := by decide +kernel
theorem dc_Mo_makeTable_24 : decode cd_Mo_makeTable 24 = .ok (.aload_n 0, 1) := by decide +kernel
theorem dc_Mo_makeTable_25 : decode cd_Mo_makeTable 25 = .ok (.getfield 95, 3) := by decide +kernel
theorem dc_Mo_makeTable_28 : decode cd_Mo_makeTable 28 = .ok (.iload_n 1, 1) := by decide +kernel
theorem dc_Mo_makeTable_29 : decode cd_Mo_makeTable 29 = .ok (.iadd, 1) := by decide +kernel
theorem dc_Mo_makeTable_30 : decode cd_Mo_makeTable 30 = .ok (.putfield 95, 3) := by decide +kernel
theorem dc_Mo_makeTable_33 : decode cd_Mo_makeTable 33 = .ok (.iinc 2 1, 3) := by decide +kernel
theorem dc_Mo_makeTable_36 : decode cd_Mo_makeTable 36 = .ok (.goto (-27), 3) := by decide +kernel
theorem dc_Mo_makeTable_39 : decode cd_Mo_makeTable 39 = .ok (.aload_n 0, 1) := by decide +kernel
theorem dc_Mo_makeTable_40 : decode cd_Mo_makeTable 40 = .ok (.getfield 29, 3) := by decide +kernel
theorem dc_Mo_makeTable_43 : decode cd_Mo_makeTable 43 = .ok (.aload_n 0, 1) := by decide +kernel
theorem dc_Mo_makeTable_44 : decode cd_Mo_makeTable 44 = .ok (.getfield 7, 3) := by decide +kernel
theorem dc_Mo_makeTable_47 : decode cd_Mo_makeTable 47 = .ok (.baload, 1) := by decide +kernel
theorem dc_Mo_makeTable_48 : decode cd_Mo_makeTable 48 = .ok (.ifCond .eq 4, 3) := by decide +kernel
theorem dc_Mo_makeTable_51 : decode cd_Mo_makeTable 51 = .ok (.return_, 1) := by decide +kernel
theorem dc_Mo_makeTable_52 : decode cd_Mo_makeTable 52 = .ok (.aload_n 0, 1) := by decide +kernel
theorem dc_Mo_makeTable_53 : decode cd_Mo_makeTable 53 = .ok (.getfield 29, 3) := by decide +kernel
theorem dc_Mo_makeTable_56 : decode cd_Mo_makeTable 56 = .ok (.aload_n 0, 1) := by decide +kernel
theorem dc_Mo_makeTable_57 : decode cd_Mo_makeTable 57 = .ok (.getfield 7, 3) := by decide +kernel
theorem dc_Mo_makeTable_60 : decode cd_Mo_makeTable 60 = .ok (.iconst 1, 1) := by decide +kernel
theorem dc_Mo_makeTable_61 : decode cd_Mo_makeTable 61 = .ok (.bastore, 1) := by decide +kernel
theorem dc_Mo_makeTable_62 : decode cd_Mo_makeTable 62 = .ok (.aload_n 0, 1) := by decide +kernel
theorem dc_Mo_makeTable_63 : decode cd_Mo_makeTable 63 = .ok (.invokevirtual 98, 3) := by decide +kernel
theorem dc_Mo_makeTable_66 : decode cd_Mo_makeTable 66 = .ok (.istore_n 1, 1) := by decide +kernel
theorem dc_Mo_makeTable_67 : decode cd_Mo_makeTable 67 = .ok (.iconst 0, 1) := by decide +kernel
theorem dc_Mo_makeTable_68 : decode cd_Mo_makeTable 68 = .ok (.istore_n 2, 1) := by decide +kernel
theorem dc_Mo_makeTable_69 : decode cd_Mo_makeTable 69 = .ok (.iload_n 2, 1) := by decide +kernel
theorem dc_Mo_makeTable_70 : decode cd_Mo_makeTable 70 = .ok (.iload_n 1, 1) := by decide +kernel
theorem dc_Mo_makeTable_71 : decode cd_Mo_makeTable 71 = .ok (.if_icmp .ge 21, 3) := by decide +kernel
theorem dc_Mo_makeTable_74 : decode cd_Mo_makeTable 74 = .ok (.aload_n 0, 1) := by decide +kernel
theorem dc_Mo_makeTable_75 : decode cd_Mo_makeTable 75 = .ok (.getfield 34, 3) := by decide +kernel
theorem dc_Mo_makeTable_78 : decode cd_Mo_makeTable 78 = .ok (.aload_n 0, 1) := by decide +kernel
theorem dc_Mo_makeTable_79 : decode cd_Mo_makeTable 79 = .ok (.getfield 95, 3) := by decide +kernel
theorem dc_Mo_makeTable_82 : decode cd_Mo_makeTable 82 = .ok (.iload_n 2, 1) := by decide +kernel
theorem dc_Mo_makeTable_83 : decode cd_Mo_makeTable 83 = .ok (.iadd, 1) := by decide +kernel
theorem dc_Mo_makeTable_84 : decode cd_Mo_makeTable 84 = .ok (.iconst (-1), 1) := by decide +kernel
theorem dc_Mo_makeTable_85 : decode cd_Mo_makeTable 85 = .ok (.iastore, 1) := by decide +kernel
theorem dc_Mo_makeTable_86 : decode cd_Mo_makeTable 86 = .ok (.iinc 2 1, 3) := by decide +kernel
theorem dc_Mo_makeTable_89 : decode cd_Mo_makeTable 89 = .ok (.goto (-20), 3) := by decide +kernel
theorem dc_Mo_makeTable_92 : decode cd_Mo_makeTable 92 = .ok (.aload_n 0, 1) := by decide +kernel
theorem dc_Mo_makeTable_93 : decode cd_Mo_makeTable 93 = .ok (.getfield 34, 3) := by decide +kernel
theorem dc_Mo_makeTable_96 : decode cd_Mo_makeTable 96 = .ok (.aload_n 0, 1) := by decide +kernel
theorem dc_Mo_makeTable_97 : decode cd_Mo_makeTable 97 = .ok (.getfield 95, 3) := by decide +kernel
theorem dc_Mo_makeTable_100 : decode cd_Mo_makeTable 100 = .ok (.iconst 0, 1) := by decide +kernel
theorem dc_Mo_makeTable_101 : decode cd_Mo_makeTable 101 = .ok (.iastore, 1) := by decide +kernel
theorem dc_Mo_makeTable_102 : decode cd_Mo_makeTable 102 = .ok (.aload_n 0, 1) := by decide +kernel
theorem dc_Mo_makeTable_103 : decode cd_Mo_makeTable 103 = .ok (.getfield 7, 3) := by decide +kernel
theorem dc_Mo_makeTable_106 : decode cd_Mo_makeTable 106 = .ok (.iconst 4, 1) := by decide +kernel
theorem dc_Mo_makeTable_107 : decode cd_Mo_makeTable 107 = .ok (.if_icmp .gt 13, 3) := by decide +kernel
theorem dc_Mo_makeTable_110 : decode cd_Mo_makeTable 110 = .ok (.aload_n 0, 1) := by decide +kernel
theorem dc_Mo_makeTable_111 : decode cd_Mo_makeTable 111 = .ok (.getfield 41, 3) := by decide +kernel
theorem dc_Mo_makeTable_114 : decode cd_Mo_makeTable 114 = .ok (.aload_n 0, 1) := by decide +kernel
theorem dc_Mo_makeTable_115 : decode cd_Mo_makeTable 115 = .ok (.getfield 95, 3) := by decide +kernel
theorem dc_Mo_makeTable_118 : decode cd_Mo_makeTable 118 = .ok (.lconst 1, 1) := by decide +kernel
theorem dc_Mo_makeTable_119 : decode cd_Mo_makeTable 119 = .ok (.lastore, 1) := by decide +kernel
theorem dc_Mo_makeTable_120 : decode cd_Mo_makeTable 120 = .ok (.aload_n 0, 1) := by decide +kernel
theorem dc_Mo_makeTable_121 : decode cd_Mo_makeTable 121 = .ok (.getfield 38, 3) := by decide +kernel
theorem dc_Mo_makeTable_124 : decode cd_Mo_makeTable 124 = .ok (.iconst 0, 1) := by decide +kernel
theorem dc_Mo_makeTable_125 : decode cd_Mo_makeTable 125 = .ok (.iconst 0, 1) := by decide +kernel
theorem dc_Mo_makeTable_126 : decode cd_Mo_makeTable 126 = .ok (.iastore, 1) := by decide +kernel
theorem dc_Mo_makeTable_127 : decode cd_Mo_makeTable 127 = .ok (.aload_n 0, 1) := by decide +kernel
theorem dc_Mo_makeTable_128 : decode cd_Mo_makeTable 128 = .ok (.iconst 1, 1) := by decide +kernel
theorem dc_Mo_makeTable_129 : decode cd_Mo_makeTable 129 = .ok (.putfield 102, 3) := by decide +kernel
theorem dc_Mo_makeTable_132 : decode cd_Mo_makeTable 132 = .ok (.iconst 0, 1) := by decide +kernel
theorem dc_Mo_makeTable_133 : decode cd_Mo_makeTable 133 = .ok (.istore_n 2, 1) := by decide +kernel
theorem dc_Mo_makeTable_134 : decode cd_Mo_makeTable 134 = .ok (.iload_n 2, 1) := by decide +kernel
theorem dc_Mo_makeTable_135 : decode cd_Mo_makeTable 135 = .ok (.aload_n 0, 1) := by decide +kernel
theorem dc_Mo_makeTable_136 : decode cd_Mo_makeTable 136 = .ok (.getfield 102, 3) := by decide +kernel
theorem dc_Mo_makeTable_139 : decode cd_Mo_makeTable 139 = .ok (.if_icmp .ge 14, 3) := by decide +kernel
theorem dc_Mo_makeTable_142 : decode cd_Mo_makeTable 142 = .ok (.aload_n 0, 1) := by decide +kernel
theorem dc_Mo_makeTable_143 : decode cd_Mo_makeTable 143 = .ok (.iload_n 2, 1) := by decide +kernel
theorem dc_Mo_makeTable_144 : decode cd_Mo_makeTable 144 = .ok (.invokevirtual 105, 3) := by decide +kernel
theorem dc_Mo_makeTable_147 : decode cd_Mo_makeTable 147 = .ok (.iinc 2 1, 3) := by decide +kernel
theorem dc_Mo_makeTable_150 : decode cd_Mo_makeTable 150 = .ok (.goto (-16), 3) := by decide +kernel
theorem dc_Mo_makeTable_153 : decode cd_Mo_makeTable 153 = .ok (.return_, 1) := by decide +kernel
theorem dc_Mo_spread_0 : decode cd_Mo_spread 0 = .ok (.aload_n 0, 1) := by decide +kernel
theorem dc_Mo_spread_1 : decode cd_Mo_spread 1 = .ok (.getfield 38, 3) := by decide +kernel
theorem dc_Mo_spread_4 : decode cd_Mo_spread 4 = .ok (.iload_n 1, 1) := by decide +kernel
theorem dc_Mo_spread_5 : decode cd_Mo_spread 5 = .ok (.iaload, 1) := by decide +kernel
theorem dc_Mo_spread_6 : decode cd_Mo_spread 6 = .ok (.istore_n 2, 1) := by decide +kernel
theorem dc_Mo_spread_7 : decode cd_Mo_spread 7 = .ok (.aload_n 0, 1) := by decide +kernel
theorem dc_Mo_spread_8 : decode cd_Mo_spread 8 = .ok (.iload_n 2, 1) := by decide +kernel
theorem dc_Mo_spread_9 : decode cd_Mo_spread 9 = .ok (.aload_n 0, 1) := by decide +kernel
theorem dc_Mo_spread_10 : decode cd_Mo_spread 10 = .ok (.getfield 48, 3) := by decide +kernel
theorem dc_Mo_spread_13 : decode cd_Mo_spread 13 = .ok (.invokevirtual 109, 3) := by decide +kernel
theorem dc_Mo_spread_16 : decode cd_Mo_spread 16 = .ok (.iconst 0, 1) := by decide +kernel
theorem dc_Mo_spread_17 : decode cd_Mo_spread 17 = .ok (.istore_n 3, 1) := by decide +kernel
theorem dc_Mo_spread_18 : decode cd_Mo_spread 18 = .ok (.iload_n 3, 1) := by decide +kernel
theorem dc_Mo_spread_19 : decode cd_Mo_spread 19 = .ok (.aload_n 0, 1) := by decide +kernel
theorem dc_Mo_spread_20 : decode cd_Mo_spread 20 = .ok (.getfield 7, 3) := by decide +kernel
theorem dc_Mo_spread_23 : decode cd_Mo_spread 23 = .ok (.if_icmp .ge 192, 3) := by decide +kernel
theorem dc_Mo_spread_26 : decode cd_Mo_spread 26 = .ok (.iload_n 3, 1) := by decide +kernel
theorem dc_Mo_spread_27 : decode cd_Mo_spread 27 = .ok (.istore 4, 2) := by decide +kernel
theorem dc_Mo_spread_29 : decode cd_Mo_spread 29 = .ok (.iload 4, 2) := by decide +kernel
theorem dc_Mo_spread_31 : decode cd_Mo_spread 31 = .ok (.aload_n 0, 1) := by decide +kernel
theorem dc_Mo_spread_32 : decode cd_Mo_spread 32 = .ok (.getfield 7, 3) := by decide +kernel
theorem dc_Mo_spread_35 : decode cd_Mo_spread 35 = .ok (.if_icmp .ge 174, 3) := by decide +kernel
theorem dc_Mo_spread_38 : decode cd_Mo_spread 38 = .ok (.aload_n 0, 1) := by decide +kernel
theorem dc_Mo_spread_39 : decode cd_Mo_spread 39 = .ok (.getfield 48, 3) := by decide +kernel
theorem dc_Mo_spread_42 : decode cd_Mo_spread 42 = .ok (.iconst 0, 1) := by decide +kernel
theorem dc_Mo_spread_43 : decode cd_Mo_spread 43 = .ok (.iload_n 3, 1) := by decide +kernel
theorem dc_Mo_spread_44 : decode cd_Mo_spread 44 = .ok (.iload 4, 2) := by decide +kernel
theorem dc_Mo_spread_46 : decode cd_Mo_spread 46 = .ok (.invokestatic 91, 3) := by decide +kernel
theorem dc_Mo_spread_49 : decode cd_Mo_spread 49 = .ok (.aload_n 0, 1) := by decide +kernel
theorem dc_Mo_spread_50 : decode cd_Mo_spread 50 = .ok (.aload_n 0, 1) := by decide +kernel
theorem dc_Mo_spread_51 : decode cd_Mo_spread 51 = .ok (.getfield 48, 3) := by decide +kernel
theorem dc_Mo_spread_54 : decode cd_Mo_spread 54 = .ok (.invokevirtual 113, 3) := by decide +kernel
theorem dc_Mo_spread_57 : decode cd_Mo_spread 57 = .ok (.istore 5, 2) := by decide +kernel
theorem dc_Mo_spread_59 : decode cd_Mo_spread 59 = .ok (.aload_n 0, 1) := by decide +kernel
theorem dc_Mo_spread_60 : decode cd_Mo_spread 60 = .ok (.getfield 48, 3) := by decide +kernel
theorem dc_Mo_spread_63 : decode cd_Mo_spread 63 = .ok (.iconst 0, 1) := by decide +kernel
theorem dc_Mo_spread_64 : decode cd_Mo_spread 64 = .ok (.iload_n 3, 1) := by decide +kernel
theorem dc_Mo_spread_65 : decode cd_Mo_spread 65 = .ok (.iload 4, 2) := by decide +kernel
theorem dc_Mo_spread_67 : decode cd_Mo_spread 67 = .ok (.invokestatic 91, 3) := by decide +kernel
theorem dc_Mo_spread_70 : decode cd_Mo_spread 70 = .ok (.aload_n 0, 1) := by decide +kernel
theorem dc_Mo_spread_71 : decode cd_Mo_spread 71 = .ok (.getfield 34, 3) := by decide +kernel
theorem dc_Mo_spread_74 : decode cd_Mo_spread 74 = .ok (.aload_n 0, 1) := by decide +kernel
theorem dc_Mo_spread_75 : decode cd_Mo_spread 75 = .ok (.getfield 95, 3) := by decide +kernel
theorem dc_Mo_spread_78 : decode cd_Mo_spread 78 = .ok (.iload 5, 2) := by decide +kernel
theorem dc_Mo_spread_80 : decode cd_Mo_spread 80 = .ok (.iadd, 1) := by decide +kernel
theorem dc_Mo_spread_81 : decode cd_Mo_spread 81 = .ok (.iaload, 1) := by decide +kernel
theorem dc_Mo_spread_82 : decode cd_Mo_spread 82 = .ok (.ifCond .ge 49, 3) := by decide +kernel
theorem dc_Mo_spread_85 : decode cd_Mo_spread 85 = .ok (.aload_n 0, 1) := by decide +kernel
theorem dc_Mo_spread_86 : decode cd_Mo_spread 86 = .ok (.getfield 34, 3) := by decide +kernel
theorem dc_Mo_spread_89 : decode cd_Mo_spread 89 = .ok (.aload_n 0, 1) := by decide +kernel
theorem dc_Mo_spread_90 : decode cd_Mo_spread 90 = .ok (.getfield 95, 3) := by decide +kernel
theorem dc_Mo_spread_93 : decode cd_Mo_spread 93 = .ok (.iload 5, 2) := by decide +kernel
theorem dc_Mo_spread_95 : decode cd_Mo_spread 95 = .ok (.iadd, 1) := by decide +kernel
theorem dc_Mo_spread_96 : decode cd_Mo_spread 96 = .ok (.aload_n 0, 1) := by decide +kernel
theorem dc_Mo_spread_97 : decode cd_Mo_spread 97 = .ok (.getfield 34, 3) := by decide +kernel
theorem dc_Mo_spread_100 : decode cd_Mo_spread 100 = .ok (.aload_n 0, 1) := by decide +kernel
theorem dc_Mo_spread_101 : decode cd_Mo_spread 101 = .ok (.getfield 95, 3) := by decide +kernel
theorem dc_Mo_spread_104 : decode cd_Mo_spread 104 = .ok (.iload_n 2, 1) := by decide +kernel
theorem dc_Mo_spread_105 : decode cd_Mo_spread 105 = .ok (.iadd, 1) := by decide +kernel
theorem dc_Mo_spread_106 : decode cd_Mo_spread 106 = .ok (.iaload, 1) := by decide +kernel
theorem dc_Mo_spread_107 : decode cd_Mo_spread 107 = .ok (.iconst 1, 1) := by decide +kernel
theorem dc_Mo_spread_108 : decode cd_Mo_spread 108 = .ok (.iadd, 1) := by decide +kernel
theorem dc_Mo_spread_109 : decode cd_Mo_spread 109 = .ok (.iastore, 1) := by decide +kernel
theorem dc_Mo_spread_110 : decode cd_Mo_spread 110 = .ok (.aload_n 0, 1) := by decide +kernel
theorem dc_Mo_spread_111 : decode cd_Mo_spread 111 = .ok (.getfield 38, 3) := by decide +kernel
theorem dc_Mo_spread_114 : decode cd_Mo_spread 114 = .ok (.aload_n 0, 1) := by decide +kernel
theorem dc_Mo_spread_115 : decode cd_Mo_spread 115 = .ok (.getfield 102, 3) := by decide +kernel
theorem dc_Mo_spread_118 : decode cd_Mo_spread 118 = .ok (.iload 5, 2) := by decide +kernel
theorem dc_Mo_spread_120 : decode cd_Mo_spread 120 = .ok (.iastore, 1) := by decide +kernel
theorem dc_Mo_spread_121 : decode cd_Mo_spread 121 = .ok (.aload_n 0, 1) := by decide +kernel
theorem dc_Mo_spread_122 : decode cd_Mo_spread 122 = .ok (.dup, 1) := by decide +kernel
theorem dc_Mo_spread_123 : decode cd_Mo_spread 123 = .ok (.getfield 102, 3) := by decide +kernel
theorem dc_Mo_spread_126 : decode cd_Mo_spread 126 = .ok (.iconst 1, 1) := by decide +kernel
theorem dc_Mo_spread_127 : decode cd_Mo_spread 127 = .ok (.iadd, 1) := by decide +kernel
theorem dc_Mo_spread_128 : decode cd_Mo_spread 128 = .ok (.putfield 102, 3) := by decide +kernel
theorem dc_Mo_spread_131 : decode cd_Mo_spread 131 = .ok (.aload_n 0, 1) := by decide +kernel
theorem dc_Mo_spread_132 : decode cd_Mo_spread 132 = .ok (.getfield 7, 3) := by decide +kernel
theorem dc_Mo_spread_135 : decode cd_Mo_spread 135 = .ok (.iconst 4, 1) := by decide +kernel
theorem dc_Mo_spread_136 : decode cd_Mo_spread 136 = .ok (.if_icmp .gt 67, 3) := by decide +kernel
theorem dc_Mo_spread_139 : decode cd_Mo_spread 139 = .ok (.aload_n 0, 1) := by decide +kernel
theorem dc_Mo_spread_140 : decode cd_Mo_spread 140 = .ok (.getfield 34, 3) := by decide +kernel
theorem dc_Mo_spread_143 : decode cd_Mo_spread 143 = .ok (.aload_n 0, 1) := by decide +kernel
theorem dc_Mo_spread_144 : decode cd_Mo_spread 144 = .ok (.getfield 95, 3) := by decide +kernel
theorem dc_Mo_spread_147 : decode cd_Mo_spread 147 = .ok (.iload 5, 2) := by decide +kernel
theorem dc_Mo_spread_149 : decode cd_Mo_spread 149 = .ok (.iadd, 1) := by decide +kernel
theorem dc_Mo_spread_150 : decode cd_Mo_spread 150 = .ok (.iaload, 1) := by decide +kernel
theorem dc_Mo_spread_151 : decode cd_Mo_spread 151 = .ok (.aload_n 0, 1) := by decide +kernel
theorem dc_Mo_spread_152 : decode cd_Mo_spread 152 = .ok (.getfield 34, 3) := by decide +kernel
theorem dc_Mo_spread_155 : decode cd_Mo_spread 155 = .ok (.aload_n 0, 1) := by decide +kernel
theorem dc_Mo_spread_156 : decode cd_Mo_spread 156 = .ok (.getfield 95, 3) := by decide +kernel
theorem dc_Mo_spread_159 : decode cd_Mo_spread 159 = .ok (.iload_n 2, 1) := by decide +kernel
theorem dc_Mo_spread_160 : decode cd_Mo_spread 160 = .ok (.iadd, 1) := by decide +kernel
theorem dc_Mo_spread_161 : decode cd_Mo_spread 161 = .ok (.iaload, 1) := by decide +kernel
theorem dc_Mo_spread_162 : decode cd_Mo_spread 162 = .ok (.iconst 1, 1) := by decide +kernel
theorem dc_Mo_spread_163 : decode cd_Mo_spread 163 = .ok (.iadd, 1) := by decide +kernel
theorem dc_Mo_spread_164 : decode cd_Mo_spread 164 = .ok (.if_icmp .ne 39, 3) := by decide +kernel
theorem dc_Mo_spread_167 : decode cd_Mo_spread 167 = .ok (.aload_n 0, 1) := by decide +kernel
theorem dc_Mo_spread_168 : decode cd_Mo_spread 168 = .ok (.getfield 41, 3) := by decide +kernel
theorem dc_Mo_spread_171 : decode cd_Mo_spread 171 = .ok (.aload_n 0, 1) := by decide +kernel
theorem dc_Mo_spread_172 : decode cd_Mo_spread 172 = .ok (.getfield 95, 3) := by decide +kernel
theorem dc_Mo_spread_175 : decode cd_Mo_spread 175 = .ok (.iload 5, 2) := by decide +kernel
theorem dc_Mo_spread_177 : decode cd_Mo_spread 177 = .ok (.iadd, 1) := by decide +kernel
theorem dc_Mo_spread_178 : decode cd_Mo_spread 178 = .ok (.aload_n 0, 1) := by decide +kernel
theorem dc_Mo_spread_179 : decode cd_Mo_spread 179 = .ok (.getfield 41, 3) := by decide +kernel
theorem dc_Mo_spread_182 : decode cd_Mo_spread 182 = .ok (.aload_n 0, 1) := by decide +kernel
theorem dc_Mo_spread_183 : decode cd_Mo_spread 183 = .ok (.getfield 95, 3) := by decide +kernel
theorem dc_Mo_spread_186 : decode cd_Mo_spread 186 = .ok (.iload 5, 2) := by decide +kernel
theorem dc_Mo_spread_188 : decode cd_Mo_spread 188 = .ok (.iadd, 1) := by decide +kernel
theorem dc_Mo_spread_189 : decode cd_Mo_spread 189 = .ok (.laload, 1) := by decide +kernel
theorem dc_Mo_spread_190 : decode cd_Mo_spread 190 = .ok (.aload_n 0, 1) := by decide +kernel
theorem dc_Mo_spread_191 : decode cd_Mo_spread 191 = .ok (.getfield 41, 3) := by decide +kernel
theorem dc_Mo_spread_194 : decode cd_Mo_spread 194 = .ok (.aload_n 0, 1) := by decide +kernel
theorem dc_Mo_spread_195 : decode cd_Mo_spread 195 = .ok (.getfield 95, 3) := by decide +kernel
theorem dc_Mo_spread_198 : decode cd_Mo_spread 198 = .ok (.iload_n 2, 1) := by decide +kernel
theorem dc_Mo_spread_199 : decode cd_Mo_spread 199 = .ok (.iadd, 1) := by decide +kernel
theorem dc_Mo_spread_200 : decode cd_Mo_spread 200 = .ok (.laload, 1) := by decide +kernel
theorem dc_Mo_spread_201 : decode cd_Mo_spread 201 = .ok (.ladd, 1) := by decide +kernel
theorem dc_Mo_spread_202 : decode cd_Mo_spread 202 = .ok (.lastore, 1) := by decide +kernel
theorem dc_Mo_spread_203 : decode cd_Mo_spread 203 = .ok (.iinc 4 1, 3) := by decide +kernel
theorem dc_Mo_spread_206 : decode cd_Mo_spread 206 = .ok (.goto (-177), 3) := by decide +kernel
theorem dc_Mo_spread_209 : decode cd_Mo_spread 209 = .ok (.iinc 3 1, 3) := by decide +kernel
theorem dc_Mo_spread_212 : decode cd_Mo_spread 212 = .ok (.goto (-194), 3) := by decide +kernel
theorem dc_Mo_spread_215 : decode cd_Mo_spread 215 = .ok (.return_, 1) := by decide +kernel
theorem dc_Mo_distanceOf_0 : decode cd_Mo_distanceOf 0 = .ok (.aload_n 0, 1) := by decide +kernel
theorem dc_Mo_distanceOf_1 : decode cd_Mo_distanceOf 1 = .ok (.invokevirtual 117, 3) := by decide +kernel
theorem dc_Mo_distanceOf_4 : decode cd_Mo_distanceOf 4 = .ok (.aload_n 0, 1) := by decide +kernel
theorem dc_Mo_distanceOf_5 : decode cd_Mo_distanceOf 5 = .ok (.aload_n 1, 1) := by decide +kernel
theorem dc_Mo_distanceOf_6 : decode cd_Mo_distanceOf 6 = .ok (.iload_n 2, 1) := by decide +kernel
theorem dc_Mo_distanceOf_7 : decode cd_Mo_distanceOf 7 = .ok (.aload_n 3, 1) := by decide +kernel
theorem dc_Mo_distanceOf_8 : decode cd_Mo_distanceOf 8 = .ok (.iload 4, 2) := by decide +kernel
theorem dc_Mo_distanceOf_10 : decode cd_Mo_distanceOf 10 = .ok (.invokevirtual 120, 3) := by decide +kernel
theorem dc_Mo_distanceOf_13 : decode cd_Mo_distanceOf 13 = .ok (.aload_n 0, 1) := by decide +kernel
theorem dc_Mo_distanceOf_14 : decode cd_Mo_distanceOf 14 = .ok (.getfield 34, 3) := by decide +kernel
theorem dc_Mo_distanceOf_17 : decode cd_Mo_distanceOf 17 = .ok (.aload_n 0, 1) := by decide +kernel
theorem dc_Mo_distanceOf_18 : decode cd_Mo_distanceOf 18 = .ok (.getfield 95, 3) := by decide +kernel
theorem dc_Mo_distanceOf_21 : decode cd_Mo_distanceOf 21 = .ok (.aload_n 0, 1) := by decide +kernel
theorem dc_Mo_distanceOf_22 : decode cd_Mo_distanceOf 22 = .ok (.aload_n 0, 1) := by decide +kernel
theorem dc_Mo_distanceOf_23 : decode cd_Mo_distanceOf 23 = .ok (.getfield 45, 3) := by decide +kernel
theorem dc_Mo_distanceOf_26 : decode cd_Mo_distanceOf 26 = .ok (.invokevirtual 113, 3) := by decide +kernel
theorem dc_Mo_distanceOf_29 : decode cd_Mo_distanceOf 29 = .ok (.iadd, 1) := by decide +kernel
theorem dc_Mo_distanceOf_30 : decode cd_Mo_distanceOf 30 = .ok (.iaload, 1) := by decide +kernel
theorem dc_Mo_distanceOf_31 : decode cd_Mo_distanceOf 31 = .ok (.ireturn, 1) := by decide +kernel
theorem dc_Mo_distance_0 : decode cd_Mo_distance 0 = .ok (.aload_n 0, 1) := by decide +kernel
theorem dc_Mo_distance_1 : decode cd_Mo_distance 1 = .ok (.iload_n 1, 1) := by decide +kernel
theorem dc_Mo_distance_2 : decode cd_Mo_distance 2 = .ok (.invokestatic 87, 3) := by decide +kernel
theorem dc_Mo_distance_5 : decode cd_Mo_distance 5 = .ok (.ifCond .ne 10, 3) := by decide +kernel
theorem dc_Mo_distance_8 : decode cd_Mo_distance 8 = .ok (.iload_n 2, 1) := by decide +kernel
theorem dc_Mo_distance_9 : decode cd_Mo_distance 9 = .ok (.invokestatic 87, 3) := by decide +kernel
theorem dc_Mo_distance_12 : decode cd_Mo_distance 12 = .ok (.ifCond .eq 7, 3) := by decide +kernel
theorem dc_Mo_distance_15 : decode cd_Mo_distance 15 = .ok (.iconst 1, 1) := by decide +kernel
theorem dc_Mo_distance_16 : decode cd_Mo_distance 16 = .ok (.goto 4, 3) := by decide +kernel
theorem dc_Mo_distance_19 : decode cd_Mo_distance 19 = .ok (.iconst 0, 1) := by decide +kernel
theorem dc_Mo_distance_20 : decode cd_Mo_distance 20 = .ok (.putfield 75, 3) := by decide +kernel
theorem dc_Mo_distance_23 : decode cd_Mo_distance 23 = .ok (.aload_n 0, 1) := by decide +kernel
theorem dc_Mo_distance_24 : decode cd_Mo_distance 24 = .ok (.getfield 75, 3) := by decide +kernel
theorem dc_Mo_distance_27 : decode cd_Mo_distance 27 = .ok (.ifCond .le 7, 3) := by decide +kernel
theorem dc_Mo_distance_30 : decode cd_Mo_distance 30 = .ok (.iconst 0, 1) := by decide +kernel
theorem dc_Mo_distance_31 : decode cd_Mo_distance 31 = .ok (.goto 23, 3) := by decide +kernel
theorem dc_Mo_distance_34 : decode cd_Mo_distance 34 = .ok (.aload_n 0, 1) := by decide +kernel
theorem dc_Mo_distance_35 : decode cd_Mo_distance 35 = .ok (.aload_n 0, 1) := by decide +kernel
theorem dc_Mo_distance_36 : decode cd_Mo_distance 36 = .ok (.getfield 13, 3) := by decide +kernel
theorem dc_Mo_distance_39 : decode cd_Mo_distance 39 = .ok (.bipush 6, 2) := by decide +kernel
theorem dc_Mo_distance_41 : decode cd_Mo_distance 41 = .ok (.iload_n 1, 1) := by decide +kernel
theorem dc_Mo_distance_42 : decode cd_Mo_distance 42 = .ok (.imul, 1) := by decide +kernel
theorem dc_Mo_distance_43 : decode cd_Mo_distance 43 = .ok (.aload_n 0, 1) := by decide +kernel
theorem dc_Mo_distance_44 : decode cd_Mo_distance 44 = .ok (.getfield 13, 3) := by decide +kernel
theorem dc_Mo_distance_47 : decode cd_Mo_distance 47 = .ok (.bipush 6, 2) := by decide +kernel
theorem dc_Mo_distance_49 : decode cd_Mo_distance 49 = .ok (.iload_n 2, 1) := by decide +kernel
theorem dc_Mo_distance_50 : decode cd_Mo_distance 50 = .ok (.imul, 1) := by decide +kernel
theorem dc_Mo_distance_51 : decode cd_Mo_distance 51 = .ok (.invokevirtual 124, 3) := by decide +kernel
theorem dc_Mo_distance_54 : decode cd_Mo_distance 54 = .ok (.ireturn, 1) := by decide +kernel
theorem dc_Mo_draw_0 : decode cd_Mo_draw 0 = .ok (.aload_n 0, 1) := by decide +kernel
theorem dc_Mo_draw_1 : decode cd_Mo_draw 1 = .ok (.aload_n 0, 1) := by decide +kernel
theorem dc_Mo_draw_2 : decode cd_Mo_draw 2 = .ok (.getfield 13, 3) := by decide +kernel
theorem dc_Mo_draw_5 : decode cd_Mo_draw 5 = .ok (.bipush 6, 2) := by decide +kernel
theorem dc_Mo_draw_7 : decode cd_Mo_draw 7 = .ok (.iload_n 1, 1) := by decide +kernel
theorem dc_Mo_draw_8 : decode cd_Mo_draw 8 = .ok (.imul, 1) := by decide +kernel
theorem dc_Mo_draw_9 : decode cd_Mo_draw 9 = .ok (.aload_n 0, 1) := by decide +kernel
theorem dc_Mo_draw_10 : decode cd_Mo_draw 10 = .ok (.getfield 13, 3) := by decide +kernel
theorem dc_Mo_draw_13 : decode cd_Mo_draw 13 = .ok (.bipush 6, 2) := by decide +kernel
theorem dc_Mo_draw_15 : decode cd_Mo_draw 15 = .ok (.iload_n 2, 1) := by decide +kernel
theorem dc_Mo_draw_16 : decode cd_Mo_draw 16 = .ok (.imul, 1) := by decide +kernel
theorem dc_Mo_draw_17 : decode cd_Mo_draw 17 = .ok (.invokevirtual 120, 3) := by decide +kernel
theorem dc_Mo_draw_20 : decode cd_Mo_draw 20 = .ok (.aload_n 0, 1) := by decide +kernel
theorem dc_Mo_draw_21 : decode cd_Mo_draw 21 = .ok (.getfield 54, 3) := by decide +kernel
theorem dc_Mo_draw_24 : decode cd_Mo_draw 24 = .ok (.iconst 0, 1) := by decide +kernel
theorem dc_Mo_draw_25 : decode cd_Mo_draw 25 = .ok (.iconst 0, 1) := by decide +kernel
theorem dc_Mo_draw_26 : decode cd_Mo_draw 26 = .ok (.iastore, 1) := by decide +kernel
theorem dc_Mo_draw_27 : decode cd_Mo_draw 27 = .ok (.aload_n 0, 1) := by decide +kernel
theorem dc_Mo_draw_28 : decode cd_Mo_draw 28 = .ok (.getfield 54, 3) := by decide +kernel
theorem dc_Mo_draw_31 : decode cd_Mo_draw 31 = .ok (.iconst 2, 1) := by decide +kernel
theorem dc_Mo_draw_32 : decode cd_Mo_draw 32 = .ok (.aload_n 0, 1) := by decide +kernel
theorem dc_Mo_draw_33 : decode cd_Mo_draw 33 = .ok (.getfield 7, 3) := by decide +kernel
theorem dc_Mo_draw_36 : decode cd_Mo_draw 36 = .ok (.imul, 1) := by decide +kernel
theorem dc_Mo_draw_37 : decode cd_Mo_draw 37 = .ok (.iconst 1, 1) := by decide +kernel
theorem dc_Mo_draw_38 : decode cd_Mo_draw 38 = .ok (.iadd, 1) := by decide +kernel
theorem dc_Mo_draw_39 : decode cd_Mo_draw 39 = .ok (.iconst 2, 1) := by decide +kernel
theorem dc_Mo_draw_40 : decode cd_Mo_draw 40 = .ok (.aload_n 0, 1) := by decide +kernel
theorem dc_Mo_draw_41 : decode cd_Mo_draw 41 = .ok (.getfield 7, 3) := by decide +kernel
theorem dc_Mo_draw_44 : decode cd_Mo_draw 44 = .ok (.imul, 1) := by decide +kernel
theorem dc_Mo_draw_45 : decode cd_Mo_draw 45 = .ok (.iconst 1, 1) := by decide +kernel
theorem dc_Mo_draw_46 : decode cd_Mo_draw 46 = .ok (.iadd, 1) := by decide +kernel
theorem dc_Mo_draw_47 : decode cd_Mo_draw 47 = .ok (.iastore, 1) := by decide +kernel
theorem dc_Mo_draw_48 : decode cd_Mo_draw 48 = .ok (.iconst 0, 1) := by decide +kernel
theorem dc_Mo_draw_49 : decode cd_Mo_draw 49 = .ok (.istore_n 3, 1) := by decide +kernel
theorem dc_Mo_draw_50 : decode cd_Mo_draw 50 = .ok (.iload_n 3, 1) := by decide +kernel
theorem dc_Mo_draw_51 : decode cd_Mo_draw 51 = .ok (.aload_n 0, 1) := by decide +kernel
theorem dc_Mo_draw_52 : decode cd_Mo_draw 52 = .ok (.getfield 7, 3) := by decide +kernel
theorem dc_Mo_draw_55 : decode cd_Mo_draw 55 = .ok (.if_icmp .ge 75, 3) := by decide +kernel
theorem dc_Mo_draw_58 : decode cd_Mo_draw 58 = .ok (.aload_n 0, 1) := by decide +kernel
theorem dc_Mo_draw_59 : decode cd_Mo_draw 59 = .ok (.getfield 45, 3) := by decide +kernel
theorem dc_Mo_draw_62 : decode cd_Mo_draw 62 = .ok (.iload_n 3, 1) := by decide +kernel
theorem dc_Mo_draw_63 : decode cd_Mo_draw 63 = .ok (.iaload, 1) := by decide +kernel
theorem dc_Mo_draw_64 : decode cd_Mo_draw 64 = .ok (.istore 4, 2) := by decide +kernel
theorem dc_Mo_draw_66 : decode cd_Mo_draw 66 = .ok (.aload_n 0, 1) := by decide +kernel
theorem dc_Mo_draw_67 : decode cd_Mo_draw 67 = .ok (.getfield 54, 3) := by decide +kernel
theorem dc_Mo_draw_70 : decode cd_Mo_draw 70 = .ok (.iconst 2, 1) := by decide +kernel
theorem dc_Mo_draw_71 : decode cd_Mo_draw 71 = .ok (.iload_n 3, 1) := by decide +kernel
theorem dc_Mo_draw_72 : decode cd_Mo_draw 72 = .ok (.imul, 1) := by decide +kernel
theorem dc_Mo_draw_73 : decode cd_Mo_draw 73 = .ok (.iconst 1, 1) := by decide +kernel
theorem dc_Mo_draw_74 : decode cd_Mo_draw 74 = .ok (.iadd, 1) := by decide +kernel
theorem dc_Mo_draw_75 : decode cd_Mo_draw 75 = .ok (.iload 4, 2) := by decide +kernel
theorem dc_Mo_draw_77 : decode cd_Mo_draw 77 = .ok (.ifCond .le 12, 3) := by decide +kernel
theorem dc_Mo_draw_80 : decode cd_Mo_draw 80 = .ok (.iconst 2, 1) := by decide +kernel
theorem dc_Mo_draw_81 : decode cd_Mo_draw 81 = .ok (.iload 4, 2) := by decide +kernel
theorem dc_Mo_draw_83 : decode cd_Mo_draw 83 = .ok (.imul, 1) := by decide +kernel
theorem dc_Mo_draw_84 : decode cd_Mo_draw 84 = .ok (.iconst 1, 1) := by decide +kernel
theorem dc_Mo_draw_85 : decode cd_Mo_draw 85 = .ok (.isub, 1) := by decide +kernel
theorem dc_Mo_draw_86 : decode cd_Mo_draw 86 = .ok (.goto 8, 3) := by decide +kernel
theorem dc_Mo_draw_89 : decode cd_Mo_draw 89 = .ok (.bipush (-2), 2) := by decide +kernel
theorem dc_Mo_draw_91 : decode cd_Mo_draw 91 = .ok (.iload 4, 2) := by decide +kernel
theorem dc_Mo_draw_93 : decode cd_Mo_draw 93 = .ok (.imul, 1) := by decide +kernel
theorem dc_Mo_draw_94 : decode cd_Mo_draw 94 = .ok (.iastore, 1) := by decide +kernel
theorem dc_Mo_draw_95 : decode cd_Mo_draw 95 = .ok (.aload_n 0, 1) := by decide +kernel
theorem dc_Mo_draw_96 : decode cd_Mo_draw 96 = .ok (.getfield 54, 3) := by decide +kernel
theorem dc_Mo_draw_99 : decode cd_Mo_draw 99 = .ok (.iconst 2, 1) := by decide +kernel
theorem dc_Mo_draw_100 : decode cd_Mo_draw 100 = .ok (.iload_n 3, 1) := by decide +kernel
theorem dc_Mo_draw_101 : decode cd_Mo_draw 101 = .ok (.imul, 1) := by decide +kernel
theorem dc_Mo_draw_102 : decode cd_Mo_draw 102 = .ok (.iconst 2, 1) := by decide +kernel
theorem dc_Mo_draw_103 : decode cd_Mo_draw 103 = .ok (.iadd, 1) := by decide +kernel
theorem dc_Mo_draw_104 : decode cd_Mo_draw 104 = .ok (.iload 4, 2) := by decide +kernel
theorem dc_Mo_draw_106 : decode cd_Mo_draw 106 = .ok (.ifCond .le 10, 3) := by decide +kernel
theorem dc_Mo_draw_109 : decode cd_Mo_draw 109 = .ok (.iconst 2, 1) := by decide +kernel
theorem dc_Mo_draw_110 : decode cd_Mo_draw 110 = .ok (.iload 4, 2) := by decide +kernel
theorem dc_Mo_draw_112 : decode cd_Mo_draw 112 = .ok (.imul, 1) := by decide +kernel
theorem dc_Mo_draw_113 : decode cd_Mo_draw 113 = .ok (.goto 10, 3) := by decide +kernel
theorem dc_Mo_draw_116 : decode cd_Mo_draw 116 = .ok (.bipush (-2), 2) := by decide +kernel
theorem dc_Mo_draw_118 : decode cd_Mo_draw 118 = .ok (.iload 4, 2) := by decide +kernel
theorem dc_Mo_draw_120 : decode cd_Mo_draw 120 = .ok (.imul, 1) := by decide +kernel
theorem dc_Mo_draw_121 : decode cd_Mo_draw 121 = .ok (.iconst 1, 1) := by decide +kernel
theorem dc_Mo_draw_122 : decode cd_Mo_draw 122 = .ok (.isub, 1) := by decide +kernel
theorem dc_Mo_draw_123 : decode cd_Mo_draw 123 = .ok (.iastore, 1) := by decide +kernel
theorem dc_Mo_draw_124 : decode cd_Mo_draw 124 = .ok (.iinc 3 1, 3) := by decide +kernel
theorem dc_Mo_draw_127 : decode cd_Mo_draw 127 = .ok (.goto (-77), 3) := by decide +kernel
theorem dc_Mo_draw_130 : decode cd_Mo_draw 130 = .ok (.iconst 0, 1) := by decide +kernel
theorem dc_Mo_draw_131 : decode cd_Mo_draw 131 = .ok (.istore_n 3, 1) := by decide +kernel
theorem dc_Mo_draw_132 : decode cd_Mo_draw 132 = .ok (.iload_n 3, 1) := by decide +kernel
theorem dc_Mo_draw_133 : decode cd_Mo_draw 133 = .ok (.iconst 2, 1) := by decide +kernel
theorem dc_Mo_draw_134 : decode cd_Mo_draw 134 = .ok (.aload_n 0, 1) := by decide +kernel
theorem dc_Mo_draw_135 : decode cd_Mo_draw 135 = .ok (.getfield 7, 3) := by decide +kernel
theorem dc_Mo_draw_138 : decode cd_Mo_draw 138 = .ok (.imul, 1) := by decide +kernel
theorem dc_Mo_draw_139 : decode cd_Mo_draw 139 = .ok (.iconst 1, 1) := by decide +kernel
theorem dc_Mo_draw_140 : decode cd_Mo_draw 140 = .ok (.iadd, 1) := by decide +kernel
theorem dc_Mo_draw_141 : decode cd_Mo_draw 141 = .ok (.if_icmp .gt 21, 3) := by decide +kernel
theorem dc_Mo_draw_144 : decode cd_Mo_draw 144 = .ok (.aload_n 0, 1) := by decide +kernel
theorem dc_Mo_draw_145 : decode cd_Mo_draw 145 = .ok (.getfield 57, 3) := by decide +kernel
theorem dc_Mo_draw_148 : decode cd_Mo_draw 148 = .ok (.aload_n 0, 1) := by decide +kernel
theorem dc_Mo_draw_149 : decode cd_Mo_draw 149 = .ok (.getfield 54, 3) := by decide +kernel
theorem dc_Mo_draw_152 : decode cd_Mo_draw 152 = .ok (.iload_n 3, 1) := by decide +kernel
theorem dc_Mo_draw_153 : decode cd_Mo_draw 153 = .ok (.iaload, 1) := by decide +kernel
theorem dc_Mo_draw_154 : decode cd_Mo_draw 154 = .ok (.iload_n 3, 1) := by decide +kernel
theorem dc_Mo_draw_155 : decode cd_Mo_draw 155 = .ok (.iastore, 1) := by decide +kernel
theorem dc_Mo_draw_156 : decode cd_Mo_draw 156 = .ok (.iinc 3 1, 3) := by decide +kernel
theorem dc_Mo_draw_159 : decode cd_Mo_draw 159 = .ok (.goto (-27), 3) := by decide +kernel
theorem dc_Mo_draw_162 : decode cd_Mo_draw 162 = .ok (.return_, 1) := by decide +kernel
