theorem dc_Mo_low_0 : decode cd_Mo_low 0 = .ok (.aload_n 0, 1) := by decide +kernel
theorem dc_Mo_low_1 : decode cd_Mo_low 1 = .ok (.getfield 57, 3) := by decide +kernel
theorem dc_Mo_low_4 : decode cd_Mo_low 4 = .ok (.iconst 2, 1) := by decide +kernel
theorem dc_Mo_low_5 : decode cd_Mo_low 5 = .ok (.iload_n 1, 1) := by decide +kernel
theorem dc_Mo_low_6 : decode cd_Mo_low 6 = .ok (.imul, 1) := by decide +kernel
theorem dc_Mo_low_7 : decode cd_Mo_low 7 = .ok (.iaload, 1) := by decide +kernel
theorem dc_Mo_low_8 : decode cd_Mo_low 8 = .ok (.aload_n 0, 1) := by decide +kernel
theorem dc_Mo_low_9 : decode cd_Mo_low 9 = .ok (.getfield 57, 3) := by decide +kernel
theorem dc_Mo_low_12 : decode cd_Mo_low 12 = .ok (.iconst 2, 1) := by decide +kernel
theorem dc_Mo_low_13 : decode cd_Mo_low 13 = .ok (.iload_n 1, 1) := by decide +kernel
theorem dc_Mo_low_14 : decode cd_Mo_low 14 = .ok (.imul, 1) := by decide +kernel
theorem dc_Mo_low_15 : decode cd_Mo_low 15 = .ok (.iconst 1, 1) := by decide +kernel
theorem dc_Mo_low_16 : decode cd_Mo_low 16 = .ok (.iadd, 1) := by decide +kernel
theorem dc_Mo_low_17 : decode cd_Mo_low 17 = .ok (.iaload, 1) := by decide +kernel
theorem dc_Mo_low_18 : decode cd_Mo_low 18 = .ok (.if_icmp .ge 14, 3) := by decide +kernel
theorem dc_Mo_low_21 : decode cd_Mo_low 21 = .ok (.aload_n 0, 1) := by decide +kernel
theorem dc_Mo_low_22 : decode cd_Mo_low 22 = .ok (.getfield 57, 3) := by decide +kernel
theorem dc_Mo_low_25 : decode cd_Mo_low 25 = .ok (.iconst 2, 1) := by decide +kernel
theorem dc_Mo_low_26 : decode cd_Mo_low 26 = .ok (.iload_n 1, 1) := by decide +kernel
theorem dc_Mo_low_27 : decode cd_Mo_low 27 = .ok (.imul, 1) := by decide +kernel
theorem dc_Mo_low_28 : decode cd_Mo_low 28 = .ok (.iaload, 1) := by decide +kernel
theorem dc_Mo_low_29 : decode cd_Mo_low 29 = .ok (.goto 13, 3) := by decide +kernel
theorem dc_Mo_low_32 : decode cd_Mo_low 32 = .ok (.aload_n 0, 1) := by decide +kernel
theorem dc_Mo_low_33 : decode cd_Mo_low 33 = .ok (.getfield 57, 3) := by decide +kernel
theorem dc_Mo_low_36 : decode cd_Mo_low 36 = .ok (.iconst 2, 1) := by decide +kernel
theorem dc_Mo_low_37 : decode cd_Mo_low 37 = .ok (.iload_n 1, 1) := by decide +kernel
theorem dc_Mo_low_38 : decode cd_Mo_low 38 = .ok (.imul, 1) := by decide +kernel
theorem dc_Mo_low_39 : decode cd_Mo_low 39 = .ok (.iconst 1, 1) := by decide +kernel
theorem dc_Mo_low_40 : decode cd_Mo_low 40 = .ok (.iadd, 1) := by decide +kernel
theorem dc_Mo_low_41 : decode cd_Mo_low 41 = .ok (.iaload, 1) := by decide +kernel
theorem dc_Mo_low_42 : decode cd_Mo_low 42 = .ok (.ireturn, 1) := by decide +kernel
theorem dc_Mo_high_0 : decode cd_Mo_high 0 = .ok (.aload_n 0, 1) := by decide +kernel
theorem dc_Mo_high_1 : decode cd_Mo_high 1 = .ok (.getfield 57, 3) := by decide +kernel
theorem dc_Mo_high_4 : decode cd_Mo_high 4 = .ok (.iconst 2, 1) := by decide +kernel
theorem dc_Mo_high_5 : decode cd_Mo_high 5 = .ok (.iload_n 1, 1) := by decide +kernel
theorem dc_Mo_high_6 : decode cd_Mo_high 6 = .ok (.imul, 1) := by decide +kernel
theorem dc_Mo_high_7 : decode cd_Mo_high 7 = .ok (.iaload, 1) := by decide +kernel
theorem dc_Mo_high_8 : decode cd_Mo_high 8 = .ok (.aload_n 0, 1) := by decide +kernel
theorem dc_Mo_high_9 : decode cd_Mo_high 9 = .ok (.getfield 57, 3) := by decide +kernel
theorem dc_Mo_high_12 : decode cd_Mo_high 12 = .ok (.iconst 2, 1) := by decide +kernel
theorem dc_Mo_high_13 : decode cd_Mo_high 13 = .ok (.iload_n 1, 1) := by decide +kernel
theorem dc_Mo_high_14 : decode cd_Mo_high 14 = .ok (.imul, 1) := by decide +kernel
theorem dc_Mo_high_15 : decode cd_Mo_high 15 = .ok (.iconst 1, 1) := by decide +kernel
theorem dc_Mo_high_16 : decode cd_Mo_high 16 = .ok (.iadd, 1) := by decide +kernel
theorem dc_Mo_high_17 : decode cd_Mo_high 17 = .ok (.iaload, 1) := by decide +kernel
theorem dc_Mo_high_18 : decode cd_Mo_high 18 = .ok (.if_icmp .ge 16, 3) := by decide +kernel
theorem dc_Mo_high_21 : decode cd_Mo_high 21 = .ok (.aload_n 0, 1) := by decide +kernel
theorem dc_Mo_high_22 : decode cd_Mo_high 22 = .ok (.getfield 57, 3) := by decide +kernel
theorem dc_Mo_high_25 : decode cd_Mo_high 25 = .ok (.iconst 2, 1) := by decide +kernel
theorem dc_Mo_high_26 : decode cd_Mo_high 26 = .ok (.iload_n 1, 1) := by decide +kernel
theorem dc_Mo_high_27 : decode cd_Mo_high 27 = .ok (.imul, 1) := by decide +kernel
theorem dc_Mo_high_28 : decode cd_Mo_high 28 = .ok (.iconst 1, 1) := by decide +kernel
theorem dc_Mo_high_29 : decode cd_Mo_high 29 = .ok (.iadd, 1) := by decide +kernel
theorem dc_Mo_high_30 : decode cd_Mo_high 30 = .ok (.iaload, 1) := by decide +kernel
theorem dc_Mo_high_31 : decode cd_Mo_high 31 = .ok (.goto 11, 3) := by decide +kernel
theorem dc_Mo_high_34 : decode cd_Mo_high 34 = .ok (.aload_n 0, 1) := by decide +kernel
theorem dc_Mo_high_35 : decode cd_Mo_high 35 = .ok (.getfield 57, 3) := by decide +kernel
theorem dc_Mo_high_38 : decode cd_Mo_high 38 = .ok (.iconst 2, 1) := by decide +kernel
theorem dc_Mo_high_39 : decode cd_Mo_high 39 = .ok (.iload_n 1, 1) := by decide +kernel
theorem dc_Mo_high_40 : decode cd_Mo_high 40 = .ok (.imul, 1) := by decide +kernel
theorem dc_Mo_high_41 : decode cd_Mo_high 41 = .ok (.iaload, 1) := by decide +kernel
theorem dc_Mo_high_42 : decode cd_Mo_high 42 = .ok (.ireturn, 1) := by decide +kernel
theorem dc_Mo_isOriented_0 : decode cd_Mo_isOriented 0 = .ok (.aload_n 0, 1) := by decide +kernel
theorem dc_Mo_isOriented_1 : decode cd_Mo_isOriented 1 = .ok (.iload_n 1, 1) := by decide +kernel
theorem dc_Mo_isOriented_2 : decode cd_Mo_isOriented 2 = .ok (.invokevirtual 128, 3) := by decide +kernel
theorem dc_Mo_isOriented_5 : decode cd_Mo_isOriented 5 = .ok (.aload_n 0, 1) := by decide +kernel
theorem dc_Mo_isOriented_6 : decode cd_Mo_isOriented 6 = .ok (.iload_n 1, 1) := by decide +kernel
theorem dc_Mo_isOriented_7 : decode cd_Mo_isOriented 7 = .ok (.invokevirtual 132, 3) := by decide +kernel
theorem dc_Mo_isOriented_10 : decode cd_Mo_isOriented 10 = .ok (.iadd, 1) := by decide +kernel
theorem dc_Mo_isOriented_11 : decode cd_Mo_isOriented 11 = .ok (.iconst 2, 1) := by decide +kernel
theorem dc_Mo_isOriented_12 : decode cd_Mo_isOriented 12 = .ok (.irem, 1) := by decide +kernel
theorem dc_Mo_isOriented_13 : decode cd_Mo_isOriented 13 = .ok (.ifCond .ne 7, 3) := by decide +kernel
theorem dc_Mo_isOriented_16 : decode cd_Mo_isOriented 16 = .ok (.iconst 1, 1) := by decide +kernel
theorem dc_Mo_isOriented_17 : decode cd_Mo_isOriented 17 = .ok (.goto 4, 3) := by decide +kernel
theorem dc_Mo_isOriented_20 : decode cd_Mo_isOriented 20 = .ok (.iconst 0, 1) := by decide +kernel
theorem dc_Mo_isOriented_21 : decode cd_Mo_isOriented 21 = .ok (.ireturn, 1) := by decide +kernel
theorem dc_Mo_isBetween_0 : decode cd_Mo_isBetween 0 = .ok (.iload_n 1, 1) := by decide +kernel
theorem dc_Mo_isBetween_1 : decode cd_Mo_isBetween 1 = .ok (.aload_n 0, 1) := by decide +kernel
theorem dc_Mo_isBetween_2 : decode cd_Mo_isBetween 2 = .ok (.iload_n 2, 1) := by decide +kernel
theorem dc_Mo_isBetween_3 : decode cd_Mo_isBetween 3 = .ok (.invokevirtual 128, 3) := by decide +kernel
theorem dc_Mo_isBetween_6 : decode cd_Mo_isBetween 6 = .ok (.if_icmp .le 16, 3) := by decide +kernel
theorem dc_Mo_isBetween_9 : decode cd_Mo_isBetween 9 = .ok (.iload_n 1, 1) := by decide +kernel
theorem dc_Mo_isBetween_10 : decode cd_Mo_isBetween 10 = .ok (.aload_n 0, 1) := by decide +kernel
theorem dc_Mo_isBetween_11 : decode cd_Mo_isBetween 11 = .ok (.iload_n 2, 1) := by decide +kernel
theorem dc_Mo_isBetween_12 : decode cd_Mo_isBetween 12 = .ok (.invokevirtual 132, 3) := by decide +kernel
theorem dc_Mo_isBetween_15 : decode cd_Mo_isBetween 15 = .ok (.if_icmp .ge 7, 3) := by decide +kernel
theorem dc_Mo_isBetween_18 : decode cd_Mo_isBetween 18 = .ok (.iconst 1, 1) := by decide +kernel
theorem dc_Mo_isBetween_19 : decode cd_Mo_isBetween 19 = .ok (.goto 4, 3) := by decide +kernel
theorem dc_Mo_isBetween_22 : decode cd_Mo_isBetween 22 = .ok (.iconst 0, 1) := by decide +kernel
theorem dc_Mo_isBetween_23 : decode cd_Mo_isBetween 23 = .ok (.ireturn, 1) := by decide +kernel
theorem dc_Mo_cycles_0 : decode cd_Mo_cycles 0 = .ok (.iconst 0, 1) := by decide +kernel
theorem dc_Mo_cycles_1 : decode cd_Mo_cycles 1 = .ok (.istore_n 1, 1) := by decide +kernel
theorem dc_Mo_cycles_2 : decode cd_Mo_cycles 2 = .ok (.iload_n 1, 1) := by decide +kernel
theorem dc_Mo_cycles_3 : decode cd_Mo_cycles 3 = .ok (.bipush 14, 2) := by decide +kernel
theorem dc_Mo_cycles_5 : decode cd_Mo_cycles 5 = .ok (.if_icmp .ge 16, 3) := by decide +kernel
theorem dc_Mo_cycles_8 : decode cd_Mo_cycles 8 = .ok (.aload_n 0, 1) := by decide +kernel
theorem dc_Mo_cycles_9 : decode cd_Mo_cycles 9 = .ok (.getfield 66, 3) := by decide +kernel
theorem dc_Mo_cycles_12 : decode cd_Mo_cycles 12 = .ok (.iload_n 1, 1) := by decide +kernel
theorem dc_Mo_cycles_13 : decode cd_Mo_cycles 13 = .ok (.iconst 0, 1) := by decide +kernel
theorem dc_Mo_cycles_14 : decode cd_Mo_cycles 14 = .ok (.bastore, 1) := by decide +kernel
theorem dc_Mo_cycles_15 : decode cd_Mo_cycles 15 = .ok (.iinc 1 1, 3) := by decide +kernel
theorem dc_Mo_cycles_18 : decode cd_Mo_cycles 18 = .ok (.goto (-16), 3) := by decide +kernel
theorem dc_Mo_cycles_21 : decode cd_Mo_cycles 21 = .ok (.iconst 0, 1) := by decide +kernel
theorem dc_Mo_cycles_22 : decode cd_Mo_cycles 22 = .ok (.istore_n 1, 1) := by decide +kernel
theorem dc_Mo_cycles_23 : decode cd_Mo_cycles 23 = .ok (.iconst 0, 1) := by decide +kernel
theorem dc_Mo_cycles_24 : decode cd_Mo_cycles 24 = .ok (.istore_n 2, 1) := by decide +kernel
theorem dc_Mo_cycles_25 : decode cd_Mo_cycles 25 = .ok (.iload_n 2, 1) := by decide +kernel
theorem dc_Mo_cycles_26 : decode cd_Mo_cycles 26 = .ok (.iconst 2, 1) := by decide +kernel
theorem dc_Mo_cycles_27 : decode cd_Mo_cycles 27 = .ok (.aload_n 0, 1) := by decide +kernel
theorem dc_Mo_cycles_28 : decode cd_Mo_cycles 28 = .ok (.getfield 7, 3) := by decide +kernel
theorem dc_Mo_cycles_31 : decode cd_Mo_cycles 31 = .ok (.imul, 1) := by decide +kernel
theorem dc_Mo_cycles_32 : decode cd_Mo_cycles 32 = .ok (.iconst 1, 1) := by decide +kernel
theorem dc_Mo_cycles_33 : decode cd_Mo_cycles 33 = .ok (.iadd, 1) := by decide +kernel
theorem dc_Mo_cycles_34 : decode cd_Mo_cycles 34 = .ok (.if_icmp .gt 75, 3) := by decide +kernel
theorem dc_Mo_cycles_37 : decode cd_Mo_cycles 37 = .ok (.iload_n 2, 1) := by decide +kernel
theorem dc_Mo_cycles_38 : decode cd_Mo_cycles 38 = .ok (.istore_n 3, 1) := by decide +kernel
theorem dc_Mo_cycles_39 : decode cd_Mo_cycles 39 = .ok (.aload_n 0, 1) := by decide +kernel
theorem dc_Mo_cycles_40 : decode cd_Mo_cycles 40 = .ok (.getfield 66, 3) := by decide +kernel
theorem dc_Mo_cycles_43 : decode cd_Mo_cycles 43 = .ok (.iload_n 2, 1) := by decide +kernel
theorem dc_Mo_cycles_44 : decode cd_Mo_cycles 44 = .ok (.baload, 1) := by decide +kernel
theorem dc_Mo_cycles_45 : decode cd_Mo_cycles 45 = .ok (.ifCond .eq 7, 3) := by decide +kernel
theorem dc_Mo_cycles_48 : decode cd_Mo_cycles 48 = .ok (.iload_n 1, 1) := by decide +kernel
theorem dc_Mo_cycles_49 : decode cd_Mo_cycles 49 = .ok (.goto 6, 3) := by decide +kernel
theorem dc_Mo_cycles_52 : decode cd_Mo_cycles 52 = .ok (.iload_n 1, 1) := by decide +kernel
theorem dc_Mo_cycles_53 : decode cd_Mo_cycles 53 = .ok (.iconst 1, 1) := by decide +kernel
theorem dc_Mo_cycles_54 : decode cd_Mo_cycles 54 = .ok (.iadd, 1) := by decide +kernel
theorem dc_Mo_cycles_55 : decode cd_Mo_cycles 55 = .ok (.istore_n 1, 1) := by decide +kernel
theorem dc_Mo_cycles_56 : decode cd_Mo_cycles 56 = .ok (.aload_n 0, 1) := by decide +kernel
theorem dc_Mo_cycles_57 : decode cd_Mo_cycles 57 = .ok (.getfield 66, 3) := by decide +kernel
theorem dc_Mo_cycles_60 : decode cd_Mo_cycles 60 = .ok (.iload_n 3, 1) := by decide +kernel
theorem dc_Mo_cycles_61 : decode cd_Mo_cycles 61 = .ok (.baload, 1) := by decide +kernel
theorem dc_Mo_cycles_62 : decode cd_Mo_cycles 62 = .ok (.ifCond .ne 41, 3) := by decide +kernel
theorem dc_Mo_cycles_65 : decode cd_Mo_cycles 65 = .ok (.aload_n 0, 1) := by decide +kernel
theorem dc_Mo_cycles_66 : decode cd_Mo_cycles 66 = .ok (.getfield 66, 3) := by decide +kernel
theorem dc_Mo_cycles_69 : decode cd_Mo_cycles 69 = .ok (.iload_n 3, 1) := by decide +kernel
theorem dc_Mo_cycles_70 : decode cd_Mo_cycles 70 = .ok (.iconst 1, 1) := by decide +kernel
theorem dc_Mo_cycles_71 : decode cd_Mo_cycles 71 = .ok (.bastore, 1) := by decide +kernel
theorem dc_Mo_cycles_72 : decode cd_Mo_cycles 72 = .ok (.iload_n 3, 1) := by decide +kernel
theorem dc_Mo_cycles_73 : decode cd_Mo_cycles 73 = .ok (.iconst 1, 1) := by decide +kernel
theorem dc_Mo_cycles_74 : decode cd_Mo_cycles 74 = .ok (.ixor, 1) := by decide +kernel
theorem dc_Mo_cycles_75 : decode cd_Mo_cycles 75 = .ok (.istore 4, 2) := by decide +kernel
theorem dc_Mo_cycles_77 : decode cd_Mo_cycles 77 = .ok (.aload_n 0, 1) := by decide +kernel
theorem dc_Mo_cycles_78 : decode cd_Mo_cycles 78 = .ok (.getfield 66, 3) := by decide +kernel
theorem dc_Mo_cycles_81 : decode cd_Mo_cycles 81 = .ok (.iload 4, 2) := by decide +kernel
theorem dc_Mo_cycles_83 : decode cd_Mo_cycles 83 = .ok (.iconst 1, 1) := by decide +kernel
theorem dc_Mo_cycles_84 : decode cd_Mo_cycles 84 = .ok (.bastore, 1) := by decide +kernel
theorem dc_Mo_cycles_85 : decode cd_Mo_cycles 85 = .ok (.aload_n 0, 1) := by decide +kernel
theorem dc_Mo_cycles_86 : decode cd_Mo_cycles 86 = .ok (.getfield 57, 3) := by decide +kernel
theorem dc_Mo_cycles_89 : decode cd_Mo_cycles 89 = .ok (.aload_n 0, 1) := by decide +kernel
theorem dc_Mo_cycles_90 : decode cd_Mo_cycles 90 = .ok (.getfield 54, 3) := by decide +kernel
theorem dc_Mo_cycles_93 : decode cd_Mo_cycles 93 = .ok (.iload 4, 2) := by decide +kernel
theorem dc_Mo_cycles_95 : decode cd_Mo_cycles 95 = .ok (.iaload, 1) := by decide +kernel
theorem dc_Mo_cycles_96 : decode cd_Mo_cycles 96 = .ok (.iconst 1, 1) := by decide +kernel
theorem dc_Mo_cycles_97 : decode cd_Mo_cycles 97 = .ok (.ixor, 1) := by decide +kernel
theorem dc_Mo_cycles_98 : decode cd_Mo_cycles 98 = .ok (.iaload, 1) := by decide +kernel
theorem dc_Mo_cycles_99 : decode cd_Mo_cycles 99 = .ok (.istore_n 3, 1) := by decide +kernel
theorem dc_Mo_cycles_100 : decode cd_Mo_cycles 100 = .ok (.goto (-44), 3) := by decide +kernel
theorem dc_Mo_cycles_103 : decode cd_Mo_cycles 103 = .ok (.iinc 2 1, 3) := by decide +kernel
theorem dc_Mo_cycles_106 : decode cd_Mo_cycles 106 = .ok (.goto (-81), 3) := by decide +kernel
theorem dc_Mo_cycles_109 : decode cd_Mo_cycles 109 = .ok (.iload_n 1, 1) := by decide +kernel
theorem dc_Mo_cycles_110 : decode cd_Mo_cycles 110 = .ok (.ireturn, 1) := by decide +kernel
theorem dc_Mo_findParts_0 : decode cd_Mo_findParts 0 = .ok (.iconst 0, 1) := by decide +kernel
theorem dc_Mo_findParts_1 : decode cd_Mo_findParts 1 = .ok (.istore_n 1, 1) := by decide +kernel
theorem dc_Mo_findParts_2 : decode cd_Mo_findParts 2 = .ok (.iload_n 1, 1) := by decide +kernel
theorem dc_Mo_findParts_3 : decode cd_Mo_findParts 3 = .ok (.aload_n 0, 1) := by decide +kernel
theorem dc_Mo_findParts_4 : decode cd_Mo_findParts 4 = .ok (.getfield 7, 3) := by decide +kernel
theorem dc_Mo_findParts_7 : decode cd_Mo_findParts 7 = .ok (.if_icmp .gt 16, 3) := by decide +kernel
theorem dc_Mo_findParts_10 : decode cd_Mo_findParts 10 = .ok (.aload_n 0, 1) := by decide +kernel
theorem dc_Mo_findParts_11 : decode cd_Mo_findParts 11 = .ok (.getfield 60, 3) := by decide +kernel
theorem dc_Mo_findParts_14 : decode cd_Mo_findParts 14 = .ok (.iload_n 1, 1) := by decide +kernel
theorem dc_Mo_findParts_15 : decode cd_Mo_findParts 15 = .ok (.iload_n 1, 1) := by decide +kernel
theorem dc_Mo_findParts_16 : decode cd_Mo_findParts 16 = .ok (.iastore, 1) := by decide +kernel
theorem dc_Mo_findParts_17 : decode cd_Mo_findParts 17 = .ok (.iinc 1 1, 3) := by decide +kernel
theorem dc_Mo_findParts_20 : decode cd_Mo_findParts 20 = .ok (.goto (-18), 3) := by decide +kernel
theorem dc_Mo_findParts_23 : decode cd_Mo_findParts 23 = .ok (.iconst 0, 1) := by decide +kernel
theorem dc_Mo_findParts_24 : decode cd_Mo_findParts 24 = .ok (.istore_n 1, 1) := by decide +kernel
theorem dc_Mo_findParts_25 : decode cd_Mo_findParts 25 = .ok (.iload_n 1, 1) := by decide +kernel
theorem dc_Mo_findParts_26 : decode cd_Mo_findParts 26 = .ok (.aload_n 0, 1) := by decide +kernel
theorem dc_Mo_findParts_27 : decode cd_Mo_findParts 27 = .ok (.getfield 7, 3) := by decide +kernel
theorem dc_Mo_findParts_30 : decode cd_Mo_findParts 30 = .ok (.if_icmp .gt 120, 3) := by decide +kernel
theorem dc_Mo_findParts_33 : decode cd_Mo_findParts 33 = .ok (.iconst 0, 1) := by decide +kernel
theorem dc_Mo_findParts_34 : decode cd_Mo_findParts 34 = .ok (.istore_n 2, 1) := by decide +kernel
theorem dc_Mo_findParts_35 : decode cd_Mo_findParts 35 = .ok (.iload_n 2, 1) := by decide +kernel
theorem dc_Mo_findParts_36 : decode cd_Mo_findParts 36 = .ok (.aload_n 0, 1) := by decide +kernel
theorem dc_Mo_findParts_37 : decode cd_Mo_findParts 37 = .ok (.getfield 7, 3) := by decide +kernel
theorem dc_Mo_findParts_40 : decode cd_Mo_findParts 40 = .ok (.if_icmp .gt 104, 3) := by decide +kernel
theorem dc_Mo_findParts_43 : decode cd_Mo_findParts 43 = .ok (.iconst 0, 1) := by decide +kernel
theorem dc_Mo_findParts_44 : decode cd_Mo_findParts 44 = .ok (.istore_n 3, 1) := by decide +kernel
theorem dc_Mo_findParts_45 : decode cd_Mo_findParts 45 = .ok (.iload_n 3, 1) := by decide +kernel
theorem dc_Mo_findParts_46 : decode cd_Mo_findParts 46 = .ok (.aload_n 0, 1) := by decide +kernel
theorem dc_Mo_findParts_47 : decode cd_Mo_findParts 47 = .ok (.getfield 7, 3) := by decide +kernel
theorem dc_Mo_findParts_50 : decode cd_Mo_findParts 50 = .ok (.if_icmp .gt 88, 3) := by decide +kernel
theorem dc_Mo_findParts_53 : decode cd_Mo_findParts 53 = .ok (.aload_n 0, 1) := by decide +kernel
theorem dc_Mo_findParts_54 : decode cd_Mo_findParts 54 = .ok (.aload_n 0, 1) := by decide +kernel
theorem dc_Mo_findParts_55 : decode cd_Mo_findParts 55 = .ok (.getfield 57, 3) := by decide +kernel
theorem dc_Mo_findParts_58 : decode cd_Mo_findParts 58 = .ok (.iconst 2, 1) := by decide +kernel
theorem dc_Mo_findParts_59 : decode cd_Mo_findParts 59 = .ok (.iload_n 3, 1) := by decide +kernel
theorem dc_Mo_findParts_60 : decode cd_Mo_findParts 60 = .ok (.imul, 1) := by decide +kernel
theorem dc_Mo_findParts_61 : decode cd_Mo_findParts 61 = .ok (.iaload, 1) := by decide +kernel
theorem dc_Mo_findParts_62 : decode cd_Mo_findParts 62 = .ok (.iload_n 2, 1) := by decide +kernel
theorem dc_Mo_findParts_63 : decode cd_Mo_findParts 63 = .ok (.invokevirtual 135, 3) := by decide +kernel
theorem dc_Mo_findParts_66 : decode cd_Mo_findParts 66 = .ok (.aload_n 0, 1) := by decide +kernel
theorem dc_Mo_findParts_67 : decode cd_Mo_findParts 67 = .ok (.aload_n 0, 1) := by decide +kernel
theorem dc_Mo_findParts_68 : decode cd_Mo_findParts 68 = .ok (.getfield 57, 3) := by decide +kernel
theorem dc_Mo_findParts_71 : decode cd_Mo_findParts 71 = .ok (.iconst 2, 1) := by decide +kernel
theorem dc_Mo_findParts_72 : decode cd_Mo_findParts 72 = .ok (.iload_n 3, 1) := by decide +kernel
theorem dc_Mo_findParts_73 : decode cd_Mo_findParts 73 = .ok (.imul, 1) := by decide +kernel
theorem dc_Mo_findParts_74 : decode cd_Mo_findParts 74 = .ok (.iconst 1, 1) := by decide +kernel
theorem dc_Mo_findParts_75 : decode cd_Mo_findParts 75 = .ok (.iadd, 1) := by decide +kernel
theorem dc_Mo_findParts_76 : decode cd_Mo_findParts 76 = .ok (.iaload, 1) := by decide +kernel
theorem dc_Mo_findParts_77 : decode cd_Mo_findParts 77 = .ok (.iload_n 2, 1) := by decide +kernel
theorem dc_Mo_findParts_78 : decode cd_Mo_findParts 78 = .ok (.invokevirtual 135, 3) := by decide +kernel
theorem dc_Mo_findParts_81 : decode cd_Mo_findParts 81 = .ok (.if_icmp .eq 51, 3) := by decide +kernel
theorem dc_Mo_findParts_84 : decode cd_Mo_findParts 84 = .ok (.aload_n 0, 1) := by decide +kernel
theorem dc_Mo_findParts_85 : decode cd_Mo_findParts 85 = .ok (.getfield 60, 3) := by decide +kernel
theorem dc_Mo_findParts_88 : decode cd_Mo_findParts 88 = .ok (.iload_n 2, 1) := by decide +kernel
theorem dc_Mo_findParts_89 : decode cd_Mo_findParts 89 = .ok (.aload_n 0, 1) := by decide +kernel
theorem dc_Mo_findParts_90 : decode cd_Mo_findParts 90 = .ok (.getfield 60, 3) := by decide +kernel
theorem dc_Mo_findParts_93 : decode cd_Mo_findParts 93 = .ok (.iload_n 3, 1) := by decide +kernel
theorem dc_Mo_findParts_94 : decode cd_Mo_findParts 94 = .ok (.iaload, 1) := by decide +kernel
theorem dc_Mo_findParts_95 : decode cd_Mo_findParts 95 = .ok (.aload_n 0, 1) := by decide +kernel
theorem dc_Mo_findParts_96 : decode cd_Mo_findParts 96 = .ok (.getfield 60, 3) := by decide +kernel
theorem dc_Mo_findParts_99 : decode cd_Mo_findParts 99 = .ok (.iload_n 2, 1) := by decide +kernel
theorem dc_Mo_findParts_100 : decode cd_Mo_findParts 100 = .ok (.iaload, 1) := by decide +kernel
theorem dc_Mo_findParts_101 : decode cd_Mo_findParts 101 = .ok (.if_icmp .ge 12, 3) := by decide +kernel
theorem dc_Mo_findParts_104 : decode cd_Mo_findParts 104 = .ok (.aload_n 0, 1) := by decide +kernel
theorem dc_Mo_findParts_105 : decode cd_Mo_findParts 105 = .ok (.getfield 60, 3) := by decide +kernel
theorem dc_Mo_findParts_108 : decode cd_Mo_findParts 108 = .ok (.iload_n 3, 1) := by decide +kernel
theorem dc_Mo_findParts_109 : decode cd_Mo_findParts 109 = .ok (.iaload, 1) := by decide +kernel
theorem dc_Mo_findParts_110 : decode cd_Mo_findParts 110 = .ok (.goto 9, 3) := by decide +kernel
theorem dc_Mo_findParts_113 : decode cd_Mo_findParts 113 = .ok (.aload_n 0, 1) := by decide +kernel
theorem dc_Mo_findParts_114 : decode cd_Mo_findParts 114 = .ok (.getfield 60, 3) := by decide +kernel
theorem dc_Mo_findParts_117 : decode cd_Mo_findParts 117 = .ok (.iload_n 2, 1) := by decide +kernel
theorem dc_Mo_findParts_118 : decode cd_Mo_findParts 118 = .ok (.iaload, 1) := by decide +kernel
theorem dc_Mo_findParts_119 : decode cd_Mo_findParts 119 = .ok (.iastore, 1) := by decide +kernel
theorem dc_Mo_findParts_120 : decode cd_Mo_findParts 120 = .ok (.aload_n 0, 1) := by decide +kernel
theorem dc_Mo_findParts_121 : decode cd_Mo_findParts 121 = .ok (.getfield 60, 3) := by decide +kernel
theorem dc_Mo_findParts_124 : decode cd_Mo_findParts 124 = .ok (.iload_n 3, 1) := by decide +kernel
theorem dc_Mo_findParts_125 : decode cd_Mo_findParts 125 = .ok (.aload_n 0, 1) := by decide +kernel
theorem dc_Mo_findParts_126 : decode cd_Mo_findParts 126 = .ok (.getfield 60, 3) := by decide +kernel
theorem dc_Mo_findParts_129 : decode cd_Mo_findParts 129 = .ok (.iload_n 2, 1) := by decide +kernel
theorem dc_Mo_findParts_130 : decode cd_Mo_findParts 130 = .ok (.iaload, 1) := by decide +kernel
theorem dc_Mo_findParts_131 : decode cd_Mo_findParts 131 = .ok (.iastore, 1) := by decide +kernel
theorem dc_Mo_findParts_132 : decode cd_Mo_findParts 132 = .ok (.iinc 3 1, 3) := by decide +kernel
theorem dc_Mo_findParts_135 : decode cd_Mo_findParts 135 = .ok (.goto (-90), 3) := by decide +kernel
theorem dc_Mo_findParts_138 : decode cd_Mo_findParts 138 = .ok (.iinc 2 1, 3) := by decide +kernel
theorem dc_Mo_findParts_141 : decode cd_Mo_findParts 141 = .ok (.goto (-106), 3) := by decide +kernel
theorem dc_Mo_findParts_144 : decode cd_Mo_findParts 144 = .ok (.iinc 1 1, 3) := by decide +kernel
theorem dc_Mo_findParts_147 : decode cd_Mo_findParts 147 = .ok (.goto (-122), 3) := by decide +kernel
theorem dc_Mo_findParts_150 : decode cd_Mo_findParts 150 = .ok (.iconst 0, 1) := by decide +kernel
theorem dc_Mo_findParts_151 : decode cd_Mo_findParts 151 = .ok (.istore_n 1, 1) := by decide +kernel
theorem dc_Mo_findParts_152 : decode cd_Mo_findParts 152 = .ok (.iconst 0, 1) := by decide +kernel
theorem dc_Mo_findParts_153 : decode cd_Mo_findParts 153 = .ok (.istore_n 2, 1) := by decide +kernel
theorem dc_Mo_findParts_154 : decode cd_Mo_findParts 154 = .ok (.iload_n 2, 1) := by decide +kernel
theorem dc_Mo_findParts_155 : decode cd_Mo_findParts 155 = .ok (.aload_n 0, 1) := by decide +kernel
theorem dc_Mo_findParts_156 : decode cd_Mo_findParts 156 = .ok (.getfield 7, 3) := by decide +kernel
theorem dc_Mo_findParts_159 : decode cd_Mo_findParts 159 = .ok (.if_icmp .gt 157, 3) := by decide +kernel
theorem dc_Mo_findParts_162 : decode cd_Mo_findParts 162 = .ok (.iconst 0, 1) := by decide +kernel
theorem dc_Mo_findParts_163 : decode cd_Mo_findParts 163 = .ok (.istore_n 3, 1) := by decide +kernel
theorem dc_Mo_findParts_164 : decode cd_Mo_findParts 164 = .ok (.iconst 0, 1) := by decide +kernel
theorem dc_Mo_findParts_165 : decode cd_Mo_findParts 165 = .ok (.istore 4, 2) := by decide +kernel
theorem dc_Mo_findParts_167 : decode cd_Mo_findParts 167 = .ok (.iconst 0, 1) := by decide +kernel
theorem dc_Mo_findParts_168 : decode cd_Mo_findParts 168 = .ok (.istore 5, 2) := by decide +kernel
theorem dc_Mo_findParts_170 : decode cd_Mo_findParts 170 = .ok (.iload 5, 2) := by decide +kernel
theorem dc_Mo_findParts_172 : decode cd_Mo_findParts 172 = .ok (.aload_n 0, 1) := by decide +kernel
theorem dc_Mo_findParts_173 : decode cd_Mo_findParts 173 = .ok (.getfield 7, 3) := by decide +kernel
theorem dc_Mo_findParts_176 : decode cd_Mo_findParts 176 = .ok (.if_icmp .gt 60, 3) := by decide +kernel
theorem dc_Mo_findParts_179 : decode cd_Mo_findParts 179 = .ok (.aload_n 0, 1) := by decide +kernel
theorem dc_Mo_findParts_180 : decode cd_Mo_findParts 180 = .ok (.getfield 60, 3) := by decide +kernel
theorem dc_Mo_findParts_183 : decode cd_Mo_findParts 183 = .ok (.iload 5, 2) := by decide +kernel
theorem dc_Mo_findParts_185 : decode cd_Mo_findParts 185 = .ok (.iaload, 1) := by decide +kernel
theorem dc_Mo_findParts_186 : decode cd_Mo_findParts 186 = .ok (.iload_n 2, 1) := by decide +kernel
theorem dc_Mo_findParts_187 : decode cd_Mo_findParts 187 = .ok (.if_icmp .ne 9, 3) := by decide +kernel
theorem dc_Mo_findParts_190 : decode cd_Mo_findParts 190 = .ok (.iload_n 3, 1) := by decide +kernel
theorem dc_Mo_findParts_191 : decode cd_Mo_findParts 191 = .ok (.iconst 1, 1) := by decide +kernel
theorem dc_Mo_findParts_192 : decode cd_Mo_findParts 192 = .ok (.iadd, 1) := by decide +kernel
theorem dc_Mo_findParts_193 : decode cd_Mo_findParts 193 = .ok (.goto 4, 3) := by decide +kernel
theorem dc_Mo_findParts_196 : decode cd_Mo_findParts 196 = .ok (.iload_n 3, 1) := by decide +kernel
theorem dc_Mo_findParts_197 : decode cd_Mo_findParts 197 = .ok (.istore_n 3, 1) := by decide +kernel
theorem dc_Mo_findParts_198 : decode cd_Mo_findParts 198 = .ok (.iload 4, 2) := by decide +kernel
theorem dc_Mo_findParts_200 : decode cd_Mo_findParts 200 = .ok (.ifCond .ne 23, 3) := by decide +kernel
theorem dc_Mo_findParts_203 : decode cd_Mo_findParts 203 = .ok (.aload_n 0, 1) := by decide +kernel
theorem dc_Mo_findParts_204 : decode cd_Mo_findParts 204 = .ok (.getfield 60, 3) := by decide +kernel
theorem dc_Mo_findParts_207 : decode cd_Mo_findParts 207 = .ok (.iload 5, 2) := by decide +kernel
theorem dc_Mo_findParts_209 : decode cd_Mo_findParts 209 = .ok (.iaload, 1) := by decide +kernel
theorem dc_Mo_findParts_210 : decode cd_Mo_findParts 210 = .ok (.iload_n 2, 1) := by decide +kernel
theorem dc_Mo_findParts_211 : decode cd_Mo_findParts 211 = .ok (.if_icmp .ne 16, 3) := by decide +kernel
theorem dc_Mo_findParts_214 : decode cd_Mo_findParts 214 = .ok (.aload_n 0, 1) := by decide +kernel
theorem dc_Mo_findParts_215 : decode cd_Mo_findParts 215 = .ok (.iload 5, 2) := by decide +kernel
theorem dc_Mo_findParts_217 : decode cd_Mo_findParts 217 = .ok (.invokevirtual 139, 3) := by decide +kernel
theorem dc_Mo_findParts_220 : decode cd_Mo_findParts 220 = .ok (.ifCond .eq 7, 3) := by decide +kernel
theorem dc_Mo_findParts_223 : decode cd_Mo_findParts 223 = .ok (.iconst 1, 1) := by decide +kernel
theorem dc_Mo_findParts_224 : decode cd_Mo_findParts 224 = .ok (.goto 4, 3) := by decide +kernel
theorem dc_Mo_findParts_227 : decode cd_Mo_findParts 227 = .ok (.iconst 0, 1) := by decide +kernel
theorem dc_Mo_findParts_228 : decode cd_Mo_findParts 228 = .ok (.istore 4, 2) := by decide +kernel
theorem dc_Mo_findParts_230 : decode cd_Mo_findParts 230 = .ok (.iinc 5 1, 3) := by decide +kernel
theorem dc_Mo_findParts_233 : decode cd_Mo_findParts 233 = .ok (.goto (-63), 3) := by decide +kernel
theorem dc_Mo_findParts_236 : decode cd_Mo_findParts 236 = .ok (.aload_n 0, 1) := by decide +kernel
theorem dc_Mo_findParts_237 : decode cd_Mo_findParts 237 = .ok (.iload_n 2, 1) := by decide +kernel
theorem dc_Mo_findParts_238 : decode cd_Mo_findParts 238 = .ok (.invokevirtual 132, 3) := by decide +kernel
theorem dc_Mo_findParts_241 : decode cd_Mo_findParts 241 = .ok (.aload_n 0, 1) := by decide +kernel
theorem dc_Mo_findParts_242 : decode cd_Mo_findParts 242 = .ok (.iload_n 2, 1) := by decide +kernel
theorem dc_Mo_findParts_243 : decode cd_Mo_findParts 243 = .ok (.invokevirtual 128, 3) := by decide +kernel
theorem dc_Mo_findParts_246 : decode cd_Mo_findParts 246 = .ok (.iconst 1, 1) := by decide +kernel
theorem dc_Mo_findParts_247 : decode cd_Mo_findParts 247 = .ok (.iadd, 1) := by decide +kernel
theorem dc_Mo_findParts_248 : decode cd_Mo_findParts 248 = .ok (.if_icmp .ne 17, 3) := by decide +kernel
theorem dc_Mo_findParts_251 : decode cd_Mo_findParts 251 = .ok (.aload_n 0, 1) := by decide +kernel
theorem dc_Mo_findParts_252 : decode cd_Mo_findParts 252 = .ok (.iload_n 2, 1) := by decide +kernel
theorem dc_Mo_findParts_253 : decode cd_Mo_findParts 253 = .ok (.invokevirtual 128, 3) := by decide +kernel
theorem dc_Mo_findParts_256 : decode cd_Mo_findParts 256 = .ok (.iconst 2, 1) := by decide +kernel
theorem dc_Mo_findParts_257 : decode cd_Mo_findParts 257 = .ok (.irem, 1) := by decide +kernel
theorem dc_Mo_findParts_258 : decode cd_Mo_findParts 258 = .ok (.ifCond .ne 7, 3) := by decide +kernel
theorem dc_Mo_findParts_261 : decode cd_Mo_findParts 261 = .ok (.iconst 1, 1) := by decide +kernel
theorem dc_Mo_findParts_262 : decode cd_Mo_findParts 262 = .ok (.goto 4, 3) := by decide +kernel
theorem dc_Mo_findParts_265 : decode cd_Mo_findParts 265 = .ok (.iconst 0, 1) := by decide +kernel
theorem dc_Mo_findParts_266 : decode cd_Mo_findParts 266 = .ok (.istore 5, 2) := by decide +kernel
theorem dc_Mo_findParts_268 : decode cd_Mo_findParts 268 = .ok (.aload_n 0, 1) := by decide +kernel
theorem dc_Mo_findParts_269 : decode cd_Mo_findParts 269 = .ok (.getfield 63, 3) := by decide +kernel
theorem dc_Mo_findParts_272 : decode cd_Mo_findParts 272 = .ok (.iload_n 2, 1) := by decide +kernel
theorem dc_Mo_findParts_273 : decode cd_Mo_findParts 273 = .ok (.iload_n 3, 1) := by decide +kernel
theorem dc_Mo_findParts_274 : decode cd_Mo_findParts 274 = .ok (.ifCond .le 22, 3) := by decide +kernel
theorem dc_Mo_findParts_277 : decode cd_Mo_findParts 277 = .ok (.iload 4, 2) := by decide +kernel
theorem dc_Mo_findParts_279 : decode cd_Mo_findParts 279 = .ok (.ifCond .ne 17, 3) := by decide +kernel
theorem dc_Mo_findParts_282 : decode cd_Mo_findParts 282 = .ok (.iload_n 3, 1) := by decide +kernel
theorem dc_Mo_findParts_283 : decode cd_Mo_findParts 283 = .ok (.iconst 1, 1) := by decide +kernel
theorem dc_Mo_findParts_284 : decode cd_Mo_findParts 284 = .ok (.if_icmp .ne 8, 3) := by decide +kernel
theorem dc_Mo_findParts_287 : decode cd_Mo_findParts 287 = .ok (.iload 5, 2) := by decide +kernel
theorem dc_Mo_findParts_289 : decode cd_Mo_findParts 289 = .ok (.ifCond .ne 7, 3) := by decide +kernel
theorem dc_Mo_findParts_292 : decode cd_Mo_findParts 292 = .ok (.iconst 1, 1) := by decide +kernel
theorem dc_Mo_findParts_293 : decode cd_Mo_findParts 293 = .ok (.goto 4, 3) := by decide +kernel
theorem dc_Mo_findParts_296 : decode cd_Mo_findParts 296 = .ok (.iconst 0, 1) := by decide +kernel
theorem dc_Mo_findParts_297 : decode cd_Mo_findParts 297 = .ok (.bastore, 1) := by decide +kernel
theorem dc_Mo_findParts_298 : decode cd_Mo_findParts 298 = .ok (.iload_n 3, 1) := by decide +kernel
theorem dc_Mo_findParts_299 : decode cd_Mo_findParts 299 = .ok (.ifCond .le 9, 3) := by decide +kernel
theorem dc_Mo_findParts_302 : decode cd_Mo_findParts 302 = .ok (.iload_n 1, 1) := by decide +kernel
theorem dc_Mo_findParts_303 : decode cd_Mo_findParts 303 = .ok (.iconst 1, 1) := by decide +kernel
theorem dc_Mo_findParts_304 : decode cd_Mo_findParts 304 = .ok (.iadd, 1) := by decide +kernel
theorem dc_Mo_findParts_305 : decode cd_Mo_findParts 305 = .ok (.goto 4, 3) := by decide +kernel
theorem dc_Mo_findParts_308 : decode cd_Mo_findParts 308 = .ok (.iload_n 1, 1) := by decide +kernel
theorem dc_Mo_findParts_309 : decode cd_Mo_findParts 309 = .ok (.istore_n 1, 1) := by decide +kernel
theorem dc_Mo_findParts_310 : decode cd_Mo_findParts 310 = .ok (.iinc 2 1, 3) := by decide +kernel
theorem dc_Mo_findParts_313 : decode cd_Mo_findParts 313 = .ok (.goto (-159), 3) := by decide +kernel
theorem dc_Mo_findParts_316 : decode cd_Mo_findParts 316 = .ok (.iload_n 1, 1) := by decide +kernel
theorem dc_Mo_findParts_317 : decode cd_Mo_findParts 317 = .ok (.ireturn, 1) := by decide +kernel
theorem dc_Mo_hurdles_0 : decode cd_Mo_hurdles 0 = .ok (.iconst 0, 1) := by decide +kernel
theorem dc_Mo_hurdles_1 : decode cd_Mo_hurdles 1 = .ok (.istore_n 1, 1) := by decide +kernel
theorem dc_Mo_hurdles_2 : decode cd_Mo_hurdles 2 = .ok (.iconst 0, 1) := by decide +kernel
theorem dc_Mo_hurdles_3 : decode cd_Mo_hurdles 3 = .ok (.istore_n 2, 1) := by decide +kernel
theorem dc_Mo_hurdles_4 : decode cd_Mo_hurdles 4 = .ok (.iload_n 2, 1) := by decide +kernel
theorem dc_Mo_hurdles_5 : decode cd_Mo_hurdles 5 = .ok (.iconst 2, 1) := by decide +kernel
theorem dc_Mo_hurdles_6 : decode cd_Mo_hurdles 6 = .ok (.aload_n 0, 1) := by decide +kernel
theorem dc_Mo_hurdles_7 : decode cd_Mo_hurdles 7 = .ok (.getfield 7, 3) := by decide +kernel
theorem dc_Mo_hurdles_10 : decode cd_Mo_hurdles 10 = .ok (.imul, 1) := by decide +kernel
theorem dc_Mo_hurdles_11 : decode cd_Mo_hurdles 11 = .ok (.iconst 1, 1) := by decide +kernel
theorem dc_Mo_hurdles_12 : decode cd_Mo_hurdles 12 = .ok (.iadd, 1) := by decide +kernel
theorem dc_Mo_hurdles_13 : decode cd_Mo_hurdles 13 = .ok (.if_icmp .gt 42, 3) := by decide +kernel
theorem dc_Mo_hurdles_16 : decode cd_Mo_hurdles 16 = .ok (.aload_n 0, 1) := by decide +kernel
theorem dc_Mo_hurdles_17 : decode cd_Mo_hurdles 17 = .ok (.getfield 60, 3) := by decide +kernel
theorem dc_Mo_hurdles_20 : decode cd_Mo_hurdles 20 = .ok (.aload_n 0, 1) := by decide +kernel
theorem dc_Mo_hurdles_21 : decode cd_Mo_hurdles 21 = .ok (.getfield 54, 3) := by decide +kernel
theorem dc_Mo_hurdles_24 : decode cd_Mo_hurdles 24 = .ok (.iload_n 2, 1) := by decide +kernel
theorem dc_Mo_hurdles_25 : decode cd_Mo_hurdles 25 = .ok (.iaload, 1) := by decide +kernel
theorem dc_Mo_hurdles_26 : decode cd_Mo_hurdles 26 = .ok (.iconst 2, 1) := by decide +kernel
theorem dc_Mo_hurdles_27 : decode cd_Mo_hurdles 27 = .ok (.idiv, 1) := by decide +kernel
theorem dc_Mo_hurdles_28 : decode cd_Mo_hurdles 28 = .ok (.iaload, 1) := by decide +kernel
theorem dc_Mo_hurdles_29 : decode cd_Mo_hurdles 29 = .ok (.istore_n 3, 1) := by decide +kernel
theorem dc_Mo_hurdles_30 : decode cd_Mo_hurdles 30 = .ok (.aload_n 0, 1) := by decide +kernel
theorem dc_Mo_hurdles_31 : decode cd_Mo_hurdles 31 = .ok (.getfield 63, 3) := by decide +kernel
theorem dc_Mo_hurdles_34 : decode cd_Mo_hurdles 34 = .ok (.iload_n 3, 1) := by decide +kernel
theorem dc_Mo_hurdles_35 : decode cd_Mo_hurdles 35 = .ok (.baload, 1) := by decide +kernel
theorem dc_Mo_hurdles_36 : decode cd_Mo_hurdles 36 = .ok (.ifCond .eq 13, 3) := by decide +kernel
theorem dc_Mo_hurdles_39 : decode cd_Mo_hurdles 39 = .ok (.aload_n 0, 1) := by decide +kernel
theorem dc_Mo_hurdles_40 : decode cd_Mo_hurdles 40 = .ok (.getfield 69, 3) := by decide +kernel
theorem dc_Mo_hurdles_43 : decode cd_Mo_hurdles 43 = .ok (.iload_n 1, 1) := by decide +kernel
theorem dc_Mo_hurdles_44 : decode cd_Mo_hurdles 44 = .ok (.iload_n 3, 1) := by decide +kernel
theorem dc_Mo_hurdles_45 : decode cd_Mo_hurdles 45 = .ok (.iastore, 1) := by decide +kernel
theorem dc_Mo_hurdles_46 : decode cd_Mo_hurdles 46 = .ok (.iinc 1 1, 3) := by decide +kernel
theorem dc_Mo_hurdles_49 : decode cd_Mo_hurdles 49 = .ok (.iinc 2 1, 3) := by decide +kernel
theorem dc_Mo_hurdles_52 : decode cd_Mo_hurdles 52 = .ok (.goto (-48), 3) := by decide +kernel
theorem dc_Mo_hurdles_55 : decode cd_Mo_hurdles 55 = .ok (.iconst 0, 1) := by decide +kernel
theorem dc_Mo_hurdles_56 : decode cd_Mo_hurdles 56 = .ok (.istore_n 2, 1) := by decide +kernel
theorem dc_Mo_hurdles_57 : decode cd_Mo_hurdles 57 = .ok (.iconst 0, 1) := by decide +kernel
theorem dc_Mo_hurdles_58 : decode cd_Mo_hurdles 58 = .ok (.istore_n 3, 1) := by decide +kernel
theorem dc_Mo_hurdles_59 : decode cd_Mo_hurdles 59 = .ok (.iload_n 3, 1) := by decide +kernel
theorem dc_Mo_hurdles_60 : decode cd_Mo_hurdles 60 = .ok (.aload_n 0, 1) := by decide +kernel
theorem dc_Mo_hurdles_61 : decode cd_Mo_hurdles 61 = .ok (.getfield 7, 3) := by decide +kernel
theorem dc_Mo_hurdles_64 : decode cd_Mo_hurdles 64 = .ok (.if_icmp .gt 87, 3) := by decide +kernel
theorem dc_Mo_hurdles_67 : decode cd_Mo_hurdles 67 = .ok (.iconst 0, 1) := by decide +kernel
theorem dc_Mo_hurdles_68 : decode cd_Mo_hurdles 68 = .ok (.istore 4, 2) := by decide +kernel
theorem dc_Mo_hurdles_70 : decode cd_Mo_hurdles 70 = .ok (.iconst 0, 1) := by decide +kernel
theorem dc_Mo_hurdles_71 : decode cd_Mo_hurdles 71 = .ok (.istore 5, 2) := by decide +kernel
theorem dc_Mo_hurdles_73 : decode cd_Mo_hurdles 73 = .ok (.iload 5, 2) := by decide +kernel
theorem dc_Mo_hurdles_75 : decode cd_Mo_hurdles 75 = .ok (.iload_n 1, 1) := by decide +kernel
theorem dc_Mo_hurdles_76 : decode cd_Mo_hurdles 76 = .ok (.if_icmp .ge 46, 3) := by decide +kernel
theorem dc_Mo_hurdles_79 : decode cd_Mo_hurdles 79 = .ok (.aload_n 0, 1) := by decide +kernel
theorem dc_Mo_hurdles_80 : decode cd_Mo_hurdles 80 = .ok (.getfield 69, 3) := by decide +kernel
theorem dc_Mo_hurdles_83 : decode cd_Mo_hurdles 83 = .ok (.iload 5, 2) := by decide +kernel
theorem dc_Mo_hurdles_85 : decode cd_Mo_hurdles 85 = .ok (.iaload, 1) := by decide +kernel
theorem dc_Mo_hurdles_86 : decode cd_Mo_hurdles 86 = .ok (.iload_n 3, 1) := by decide +kernel
theorem dc_Mo_hurdles_87 : decode cd_Mo_hurdles 87 = .ok (.if_icmp .ne 25, 3) := by decide +kernel
theorem dc_Mo_hurdles_90 : decode cd_Mo_hurdles 90 = .ok (.aload_n 0, 1) := by decide +kernel
theorem dc_Mo_hurdles_91 : decode cd_Mo_hurdles 91 = .ok (.getfield 69, 3) := by decide +kernel
theorem dc_Mo_hurdles_94 : decode cd_Mo_hurdles 94 = .ok (.iload 5, 2) := by decide +kernel
theorem dc_Mo_hurdles_96 : decode cd_Mo_hurdles 96 = .ok (.iconst 1, 1) := by decide +kernel
theorem dc_Mo_hurdles_97 : decode cd_Mo_hurdles 97 = .ok (.iadd, 1) := by decide +kernel
theorem dc_Mo_hurdles_98 : decode cd_Mo_hurdles 98 = .ok (.iload_n 1, 1) := by decide +kernel
theorem dc_Mo_hurdles_99 : decode cd_Mo_hurdles 99 = .ok (.irem, 1) := by decide +kernel
theorem dc_Mo_hurdles_100 : decode cd_Mo_hurdles 100 = .ok (.iaload, 1) := by decide +kernel
theorem dc_Mo_hurdles_101 : decode cd_Mo_hurdles 101 = .ok (.iload_n 3, 1) := by decide +kernel
theorem dc_Mo_hurdles_102 : decode cd_Mo_hurdles 102 = .ok (.if_icmp .eq 10, 3) := by decide +kernel
theorem dc_Mo_hurdles_105 : decode cd_Mo_hurdles 105 = .ok (.iload 4, 2) := by decide +kernel
theorem dc_Mo_hurdles_107 : decode cd_Mo_hurdles 107 = .ok (.iconst 1, 1) := by decide +kernel
theorem dc_Mo_hurdles_108 : decode cd_Mo_hurdles 108 = .ok (.iadd, 1) := by decide +kernel
theorem dc_Mo_hurdles_109 : decode cd_Mo_hurdles 109 = .ok (.goto 5, 3) := by decide +kernel
theorem dc_Mo_hurdles_112 : decode cd_Mo_hurdles 112 = .ok (.iload 4, 2) := by decide +kernel
theorem dc_Mo_hurdles_114 : decode cd_Mo_hurdles 114 = .ok (.istore 4, 2) := by decide +kernel
theorem dc_Mo_hurdles_116 : decode cd_Mo_hurdles 116 = .ok (.iinc 5 1, 3) := by decide +kernel
theorem dc_Mo_hurdles_119 : decode cd_Mo_hurdles 119 = .ok (.goto (-46), 3) := by decide +kernel
theorem dc_Mo_hurdles_122 : decode cd_Mo_hurdles 122 = .ok (.aload_n 0, 1) := by decide +kernel
theorem dc_Mo_hurdles_123 : decode cd_Mo_hurdles 123 = .ok (.getfield 63, 3) := by decide +kernel
theorem dc_Mo_hurdles_126 : decode cd_Mo_hurdles 126 = .ok (.iload_n 3, 1) := by decide +kernel
theorem dc_Mo_hurdles_127 : decode cd_Mo_hurdles 127 = .ok (.baload, 1) := by decide +kernel
theorem dc_Mo_hurdles_128 : decode cd_Mo_hurdles 128 = .ok (.ifCond .eq 15, 3) := by decide +kernel
theorem dc_Mo_hurdles_131 : decode cd_Mo_hurdles 131 = .ok (.iload 4, 2) := by decide +kernel
theorem dc_Mo_hurdles_133 : decode cd_Mo_hurdles 133 = .ok (.iconst 2, 1) := by decide +kernel
theorem dc_Mo_hurdles_134 : decode cd_Mo_hurdles 134 = .ok (.if_icmp .ge 9, 3) := by decide +kernel
theorem dc_Mo_hurdles_137 : decode cd_Mo_hurdles 137 = .ok (.iload_n 2, 1) := by decide +kernel
theorem dc_Mo_hurdles_138 : decode cd_Mo_hurdles 138 = .ok (.iconst 1, 1) := by decide +kernel
theorem dc_Mo_hurdles_139 : decode cd_Mo_hurdles 139 = .ok (.iadd, 1) := by decide +kernel
theorem dc_Mo_hurdles_140 : decode cd_Mo_hurdles 140 = .ok (.goto 4, 3) := by decide +kernel
theorem dc_Mo_hurdles_143 : decode cd_Mo_hurdles 143 = .ok (.iload_n 2, 1) := by decide +kernel
theorem dc_Mo_hurdles_144 : decode cd_Mo_hurdles 144 = .ok (.istore_n 2, 1) := by decide +kernel
theorem dc_Mo_hurdles_145 : decode cd_Mo_hurdles 145 = .ok (.iinc 3 1, 3) := by decide +kernel
theorem dc_Mo_hurdles_148 : decode cd_Mo_hurdles 148 = .ok (.goto (-89), 3) := by decide +kernel
theorem dc_Mo_hurdles_151 : decode cd_Mo_hurdles 151 = .ok (.iload_n 2, 1) := by decide +kernel
theorem dc_Mo_hurdles_152 : decode cd_Mo_hurdles 152 = .ok (.ireturn, 1) := by decide +kernel
theorem dc_Mo_breakpoints_0 : decode cd_Mo_breakpoints 0 = .ok (.iconst 0, 1) := by decide +kernel
theorem dc_Mo_breakpoints_1 : decode cd_Mo_breakpoints 1 = .ok (.istore_n 1, 1) := by decide +kernel
theorem dc_Mo_breakpoints_2 : decode cd_Mo_breakpoints 2 = .ok (.iconst 0, 1) := by decide +kernel
theorem dc_Mo_breakpoints_3 : decode cd_Mo_breakpoints 3 = .ok (.istore_n 2, 1) := by decide +kernel
theorem dc_Mo_breakpoints_4 : decode cd_Mo_breakpoints 4 = .ok (.iload_n 2, 1) := by decide +kernel
theorem dc_Mo_breakpoints_5 : decode cd_Mo_breakpoints 5 = .ok (.aload_n 0, 1) := by decide +kernel
theorem dc_Mo_breakpoints_6 : decode cd_Mo_breakpoints 6 = .ok (.getfield 7, 3) := by decide +kernel
theorem dc_Mo_breakpoints_9 : decode cd_Mo_breakpoints 9 = .ok (.if_icmp .gt 67, 3) := by decide +kernel
theorem dc_Mo_breakpoints_12 : decode cd_Mo_breakpoints 12 = .ok (.iload_n 2, 1) := by decide +kernel
theorem dc_Mo_breakpoints_13 : decode cd_Mo_breakpoints 13 = .ok (.ifCond .ne 7, 3) := by decide +kernel
theorem dc_Mo_breakpoints_16 : decode cd_Mo_breakpoints 16 = .ok (.iconst 0, 1) := by decide +kernel
theorem dc_Mo_breakpoints_17 : decode cd_Mo_breakpoints 17 = .ok (.goto 11, 3) := by decide +kernel
theorem dc_Mo_breakpoints_20 : decode cd_Mo_breakpoints 20 = .ok (.aload_n 0, 1) := by decide +kernel
theorem dc_Mo_breakpoints_21 : decode cd_Mo_breakpoints 21 = .ok (.getfield 45, 3) := by decide +kernel
theorem dc_Mo_breakpoints_24 : decode cd_Mo_breakpoints 24 = .ok (.iload_n 2, 1) := by decide +kernel
theorem dc_Mo_breakpoints_25 : decode cd_Mo_breakpoints 25 = .ok (.iconst 1, 1) := by decide +kernel
theorem dc_Mo_breakpoints_26 : decode cd_Mo_breakpoints 26 = .ok (.isub, 1) := by decide +kernel
theorem dc_Mo_breakpoints_27 : decode cd_Mo_breakpoints 27 = .ok (.iaload, 1) := by decide +kernel
theorem dc_Mo_breakpoints_28 : decode cd_Mo_breakpoints 28 = .ok (.istore_n 3, 1) := by decide +kernel
theorem dc_Mo_breakpoints_29 : decode cd_Mo_breakpoints 29 = .ok (.iload_n 2, 1) := by decide +kernel
theorem dc_Mo_breakpoints_30 : decode cd_Mo_breakpoints 30 = .ok (.aload_n 0, 1) := by decide +kernel
theorem dc_Mo_breakpoints_31 : decode cd_Mo_breakpoints 31 = .ok (.getfield 7, 3) := by decide +kernel
theorem dc_Mo_breakpoints_34 : decode cd_Mo_breakpoints 34 = .ok (.if_icmp .ne 12, 3) := by decide +kernel
theorem dc_Mo_breakpoints_37 : decode cd_Mo_breakpoints 37 = .ok (.aload_n 0, 1) := by decide +kernel
theorem dc_Mo_breakpoints_38 : decode cd_Mo_breakpoints 38 = .ok (.getfield 7, 3) := by decide +kernel
theorem dc_Mo_breakpoints_41 : decode cd_Mo_breakpoints 41 = .ok (.iconst 1, 1) := by decide +kernel
theorem dc_Mo_breakpoints_42 : decode cd_Mo_breakpoints 42 = .ok (.iadd, 1) := by decide +kernel
theorem dc_Mo_breakpoints_43 : decode cd_Mo_breakpoints 43 = .ok (.goto 9, 3) := by decide +kernel
theorem dc_Mo_breakpoints_46 : decode cd_Mo_breakpoints 46 = .ok (.aload_n 0, 1) := by decide +kernel
theorem dc_Mo_breakpoints_47 : decode cd_Mo_breakpoints 47 = .ok (.getfield 45, 3) := by decide +kernel
theorem dc_Mo_breakpoints_50 : decode cd_Mo_breakpoints 50 = .ok (.iload_n 2, 1) := by decide +kernel
theorem dc_Mo_breakpoints_51 : decode cd_Mo_breakpoints 51 = .ok (.iaload, 1) := by decide +kernel
theorem dc_Mo_breakpoints_52 : decode cd_Mo_breakpoints 52 = .ok (.istore 4, 2) := by decide +kernel
theorem dc_Mo_breakpoints_54 : decode cd_Mo_breakpoints 54 = .ok (.iload 4, 2) := by decide +kernel
theorem dc_Mo_breakpoints_56 : decode cd_Mo_breakpoints 56 = .ok (.iload_n 3, 1) := by decide +kernel
theorem dc_Mo_breakpoints_57 : decode cd_Mo_breakpoints 57 = .ok (.iconst 1, 1) := by decide +kernel
theorem dc_Mo_breakpoints_58 : decode cd_Mo_breakpoints 58 = .ok (.iadd, 1) := by decide +kernel
theorem dc_Mo_breakpoints_59 : decode cd_Mo_breakpoints 59 = .ok (.if_icmp .ne 7, 3) := by decide +kernel
theorem dc_Mo_breakpoints_62 : decode cd_Mo_breakpoints 62 = .ok (.iload_n 1, 1) := by decide +kernel
theorem dc_Mo_breakpoints_63 : decode cd_Mo_breakpoints 63 = .ok (.goto 6, 3) := by decide +kernel
theorem dc_Mo_breakpoints_66 : decode cd_Mo_breakpoints 66 = .ok (.iload_n 1, 1) := by decide +kernel
theorem dc_Mo_breakpoints_67 : decode cd_Mo_breakpoints 67 = .ok (.iconst 1, 1) := by decide +kernel
theorem dc_Mo_breakpoints_68 : decode cd_Mo_breakpoints 68 = .ok (.iadd, 1) := by decide +kernel
theorem dc_Mo_breakpoints_69 : decode cd_Mo_breakpoints 69 = .ok (.istore_n 1, 1) := by decide +kernel
theorem dc_Mo_breakpoints_70 : decode cd_Mo_breakpoints 70 = .ok (.iinc 2 1, 3) := by decide +kernel
theorem dc_Mo_breakpoints_73 : decode cd_Mo_breakpoints 73 = .ok (.goto (-69), 3) := by decide +kernel
theorem dc_Mo_breakpoints_76 : decode cd_Mo_breakpoints 76 = .ok (.iload_n 1, 1) := by decide +kernel
theorem dc_Mo_breakpoints_77 : decode cd_Mo_breakpoints 77 = .ok (.ireturn, 1) := by decide +kernel
theorem dc_Mo_drawing_0 : decode cd_Mo_drawing 0 = .ok (.aload_n 0, 1) := by decide +kernel
theorem dc_Mo_drawing_1 : decode cd_Mo_drawing 1 = .ok (.iload_n 1, 1) := by decide +kernel
theorem dc_Mo_drawing_2 : decode cd_Mo_drawing 2 = .ok (.invokestatic 87, 3) := by decide +kernel
theorem dc_Mo_drawing_5 : decode cd_Mo_drawing 5 = .ok (.ifCond .ne 10, 3) := by decide +kernel
theorem dc_Mo_drawing_8 : decode cd_Mo_drawing 8 = .ok (.iload_n 2, 1) := by decide +kernel
theorem dc_Mo_drawing_9 : decode cd_Mo_drawing 9 = .ok (.invokestatic 87, 3) := by decide +kernel
theorem dc_Mo_drawing_12 : decode cd_Mo_drawing 12 = .ok (.ifCond .eq 7, 3) := by decide +kernel
theorem dc_Mo_drawing_15 : decode cd_Mo_drawing 15 = .ok (.iconst 1, 1) := by decide +kernel
theorem dc_Mo_drawing_16 : decode cd_Mo_drawing 16 = .ok (.goto 17, 3) := by decide +kernel
theorem dc_Mo_drawing_19 : decode cd_Mo_drawing 19 = .ok (.iload_n 3, 1) := by decide +kernel
theorem dc_Mo_drawing_20 : decode cd_Mo_drawing 20 = .ok (.ifCond .lt 8, 3) := by decide +kernel
theorem dc_Mo_drawing_23 : decode cd_Mo_drawing 23 = .ok (.iload_n 3, 1) := by decide +kernel
theorem dc_Mo_drawing_24 : decode cd_Mo_drawing 24 = .ok (.iconst 5, 1) := by decide +kernel
theorem dc_Mo_drawing_25 : decode cd_Mo_drawing 25 = .ok (.if_icmp .le 7, 3) := by decide +kernel
theorem dc_Mo_drawing_28 : decode cd_Mo_drawing 28 = .ok (.iconst 2, 1) := by decide +kernel
theorem dc_Mo_drawing_29 : decode cd_Mo_drawing 29 = .ok (.goto 4, 3) := by decide +kernel
theorem dc_Mo_drawing_32 : decode cd_Mo_drawing 32 = .ok (.iconst 0, 1) := by decide +kernel
theorem dc_Mo_drawing_33 : decode cd_Mo_drawing 33 = .ok (.putfield 75, 3) := by decide +kernel
theorem dc_Mo_drawing_36 : decode cd_Mo_drawing 36 = .ok (.aload_n 0, 1) := by decide +kernel
theorem dc_Mo_drawing_37 : decode cd_Mo_drawing 37 = .ok (.getfield 75, 3) := by decide +kernel
theorem dc_Mo_drawing_40 : decode cd_Mo_drawing 40 = .ok (.ifCond .le 5, 3) := by decide +kernel
theorem dc_Mo_drawing_43 : decode cd_Mo_drawing 43 = .ok (.iconst 0, 1) := by decide +kernel
theorem dc_Mo_drawing_44 : decode cd_Mo_drawing 44 = .ok (.ireturn, 1) := by decide +kernel
theorem dc_Mo_drawing_45 : decode cd_Mo_drawing 45 = .ok (.aload_n 0, 1) := by decide +kernel
theorem dc_Mo_drawing_46 : decode cd_Mo_drawing 46 = .ok (.iload_n 1, 1) := by decide +kernel
theorem dc_Mo_drawing_47 : decode cd_Mo_drawing 47 = .ok (.iload_n 2, 1) := by decide +kernel
theorem dc_Mo_drawing_48 : decode cd_Mo_drawing 48 = .ok (.invokevirtual 142, 3) := by decide +kernel
theorem dc_Mo_drawing_51 : decode cd_Mo_drawing 51 = .ok (.aload_n 0, 1) := by decide +kernel
theorem dc_Mo_drawing_52 : decode cd_Mo_drawing 52 = .ok (.invokevirtual 146, 3) := by decide +kernel
theorem dc_Mo_drawing_55 : decode cd_Mo_drawing 55 = .ok (.istore 4, 2) := by decide +kernel
theorem dc_Mo_drawing_57 : decode cd_Mo_drawing 57 = .ok (.iconst 0, 1) := by decide +kernel
theorem dc_Mo_drawing_58 : decode cd_Mo_drawing 58 = .ok (.istore 5, 2) := by decide +kernel
theorem dc_Mo_drawing_60 : decode cd_Mo_drawing 60 = .ok (.iload_n 3, 1) := by decide +kernel
theorem dc_Mo_drawing_61 : decode cd_Mo_drawing 61 = .ok (.tableswitch 131 0 4 #[35, 40, 43, 85, 90], 35) := by decide +kernel
theorem dc_Mo_drawing_96 : decode cd_Mo_drawing 96 = .ok (.aload_n 0, 1) := by decide +kernel
theorem dc_Mo_drawing_97 : decode cd_Mo_drawing 97 = .ok (.invokevirtual 149, 3) := by decide +kernel
theorem dc_Mo_drawing_100 : decode cd_Mo_drawing 100 = .ok (.ireturn, 1) := by decide +kernel
theorem dc_Mo_drawing_101 : decode cd_Mo_drawing 101 = .ok (.iload 4, 2) := by decide +kernel
theorem dc_Mo_drawing_103 : decode cd_Mo_drawing 103 = .ok (.ireturn, 1) := by decide +kernel
theorem dc_Mo_drawing_104 : decode cd_Mo_drawing 104 = .ok (.iconst 0, 1) := by decide +kernel
theorem dc_Mo_drawing_105 : decode cd_Mo_drawing 105 = .ok (.istore 6, 2) := by decide +kernel
theorem dc_Mo_drawing_107 : decode cd_Mo_drawing 107 = .ok (.iload 6, 2) := by decide +kernel
theorem dc_Mo_drawing_109 : decode cd_Mo_drawing 109 = .ok (.aload_n 0, 1) := by decide +kernel
theorem dc_Mo_drawing_110 : decode cd_Mo_drawing 110 = .ok (.getfield 7, 3) := by decide +kernel
theorem dc_Mo_drawing_113 : decode cd_Mo_drawing 113 = .ok (.if_icmp .gt 30, 3) := by decide +kernel
theorem dc_Mo_drawing_116 : decode cd_Mo_drawing 116 = .ok (.aload_n 0, 1) := by decide +kernel
theorem dc_Mo_drawing_117 : decode cd_Mo_drawing 117 = .ok (.getfield 63, 3) := by decide +kernel
theorem dc_Mo_drawing_120 : decode cd_Mo_drawing 120 = .ok (.iload 6, 2) := by decide +kernel
theorem dc_Mo_drawing_122 : decode cd_Mo_drawing 122 = .ok (.baload, 1) := by decide +kernel
theorem dc_Mo_drawing_123 : decode cd_Mo_drawing 123 = .ok (.ifCond .eq 10, 3) := by decide +kernel
theorem dc_Mo_drawing_126 : decode cd_Mo_drawing 126 = .ok (.iload 5, 2) := by decide +kernel
theorem dc_Mo_drawing_128 : decode cd_Mo_drawing 128 = .ok (.iconst 1, 1) := by decide +kernel
theorem dc_Mo_drawing_129 : decode cd_Mo_drawing 129 = .ok (.iadd, 1) := by decide +kernel
theorem dc_Mo_drawing_130 : decode cd_Mo_drawing 130 = .ok (.goto 5, 3) := by decide +kernel
theorem dc_Mo_drawing_133 : decode cd_Mo_drawing 133 = .ok (.iload 5, 2) := by decide +kernel
theorem dc_Mo_drawing_135 : decode cd_Mo_drawing 135 = .ok (.istore 5, 2) := by decide +kernel
theorem dc_Mo_drawing_137 : decode cd_Mo_drawing 137 = .ok (.iinc 6 1, 3) := by decide +kernel
theorem dc_Mo_drawing_140 : decode cd_Mo_drawing 140 = .ok (.goto (-33), 3) := by decide +kernel
theorem dc_Mo_drawing_143 : decode cd_Mo_drawing 143 = .ok (.iload 5, 2) := by decide +kernel
theorem dc_Mo_drawing_145 : decode cd_Mo_drawing 145 = .ok (.ireturn, 1) := by decide +kernel
theorem dc_Mo_drawing_146 : decode cd_Mo_drawing 146 = .ok (.aload_n 0, 1) := by decide +kernel
theorem dc_Mo_drawing_147 : decode cd_Mo_drawing 147 = .ok (.invokevirtual 152, 3) := by decide +kernel
theorem dc_Mo_drawing_150 : decode cd_Mo_drawing 150 = .ok (.ireturn, 1) := by decide +kernel
theorem dc_Mo_drawing_151 : decode cd_Mo_drawing 151 = .ok (.iconst 0, 1) := by decide +kernel
theorem dc_Mo_drawing_152 : decode cd_Mo_drawing 152 = .ok (.istore 6, 2) := by decide +kernel
theorem dc_Mo_drawing_154 : decode cd_Mo_drawing 154 = .ok (.iload 6, 2) := by decide +kernel
theorem dc_Mo_drawing_156 : decode cd_Mo_drawing 156 = .ok (.aload_n 0, 1) := by decide +kernel
theorem dc_Mo_drawing_157 : decode cd_Mo_drawing 157 = .ok (.getfield 7, 3) := by decide +kernel
theorem dc_Mo_drawing_160 : decode cd_Mo_drawing 160 = .ok (.if_icmp .gt 29, 3) := by decide +kernel
theorem dc_Mo_drawing_163 : decode cd_Mo_drawing 163 = .ok (.aload_n 0, 1) := by decide +kernel
theorem dc_Mo_drawing_164 : decode cd_Mo_drawing 164 = .ok (.iload 6, 2) := by decide +kernel
theorem dc_Mo_drawing_166 : decode cd_Mo_drawing 166 = .ok (.invokevirtual 139, 3) := by decide +kernel
theorem dc_Mo_drawing_169 : decode cd_Mo_drawing 169 = .ok (.ifCond .eq 10, 3) := by decide +kernel
theorem dc_Mo_drawing_172 : decode cd_Mo_drawing 172 = .ok (.iload 5, 2) := by decide +kernel
theorem dc_Mo_drawing_174 : decode cd_Mo_drawing 174 = .ok (.iconst 1, 1) := by decide +kernel
theorem dc_Mo_drawing_175 : decode cd_Mo_drawing 175 = .ok (.iadd, 1) := by decide +kernel
theorem dc_Mo_drawing_176 : decode cd_Mo_drawing 176 = .ok (.goto 5, 3) := by decide +kernel
theorem dc_Mo_drawing_179 : decode cd_Mo_drawing 179 = .ok (.iload 5, 2) := by decide +kernel
theorem dc_Mo_drawing_181 : decode cd_Mo_drawing 181 = .ok (.istore 5, 2) := by decide +kernel
theorem dc_Mo_drawing_183 : decode cd_Mo_drawing 183 = .ok (.iinc 6 1, 3) := by decide +kernel
theorem dc_Mo_drawing_186 : decode cd_Mo_drawing 186 = .ok (.goto (-32), 3) := by decide +kernel
theorem dc_Mo_drawing_189 : decode cd_Mo_drawing 189 = .ok (.iload 5, 2) := by decide +kernel
theorem dc_Mo_drawing_191 : decode cd_Mo_drawing 191 = .ok (.ireturn, 1) := by decide +kernel
theorem dc_Mo_drawing_192 : decode cd_Mo_drawing 192 = .ok (.aload_n 0, 1) := by decide +kernel
theorem dc_Mo_drawing_193 : decode cd_Mo_drawing 193 = .ok (.invokevirtual 155, 3) := by decide +kernel
theorem dc_Mo_drawing_196 : decode cd_Mo_drawing 196 = .ok (.ireturn, 1) := by decide +kernel
theorem dc_Mo_line_0 : decode cd_Mo_line 0 = .ok (.aload_n 0, 1) := by decide +kernel
theorem dc_Mo_line_1 : decode cd_Mo_line 1 = .ok (.iload_n 1, 1) := by decide +kernel
theorem dc_Mo_line_2 : decode cd_Mo_line 2 = .ok (.invokestatic 87, 3) := by decide +kernel
theorem dc_Mo_line_5 : decode cd_Mo_line 5 = .ok (.ifCond .ne 10, 3) := by decide +kernel
theorem dc_Mo_line_8 : decode cd_Mo_line 8 = .ok (.iload_n 2, 1) := by decide +kernel
theorem dc_Mo_line_9 : decode cd_Mo_line 9 = .ok (.invokestatic 87, 3) := by decide +kernel
theorem dc_Mo_line_12 : decode cd_Mo_line 12 = .ok (.ifCond .eq 7, 3) := by decide +kernel
theorem dc_Mo_line_15 : decode cd_Mo_line 15 = .ok (.iconst 1, 1) := by decide +kernel
theorem dc_Mo_line_16 : decode cd_Mo_line 16 = .ok (.goto 20, 3) := by decide +kernel
theorem dc_Mo_line_19 : decode cd_Mo_line 19 = .ok (.iload_n 3, 1) := by decide +kernel
theorem dc_Mo_line_20 : decode cd_Mo_line 20 = .ok (.ifCond .lt 11, 3) := by decide +kernel
theorem dc_Mo_line_23 : decode cd_Mo_line 23 = .ok (.iload_n 3, 1) := by decide +kernel
theorem dc_Mo_line_24 : decode cd_Mo_line 24 = .ok (.aload_n 0, 1) := by decide +kernel
theorem dc_Mo_line_25 : decode cd_Mo_line 25 = .ok (.getfield 7, 3) := by decide +kernel
theorem dc_Mo_line_28 : decode cd_Mo_line 28 = .ok (.if_icmp .le 7, 3) := by decide +kernel
theorem dc_Mo_line_31 : decode cd_Mo_line 31 = .ok (.iconst 2, 1) := by decide +kernel
theorem dc_Mo_line_32 : decode cd_Mo_line 32 = .ok (.goto 4, 3) := by decide +kernel
theorem dc_Mo_line_35 : decode cd_Mo_line 35 = .ok (.iconst 0, 1) := by decide +kernel
theorem dc_Mo_line_36 : decode cd_Mo_line 36 = .ok (.putfield 75, 3) := by decide +kernel
theorem dc_Mo_line_39 : decode cd_Mo_line 39 = .ok (.aload_n 0, 1) := by decide +kernel
theorem dc_Mo_line_40 : decode cd_Mo_line 40 = .ok (.getfield 75, 3) := by decide +kernel
theorem dc_Mo_line_43 : decode cd_Mo_line 43 = .ok (.ifCond .le 5, 3) := by decide +kernel
theorem dc_Mo_line_46 : decode cd_Mo_line 46 = .ok (.iconst 0, 1) := by decide +kernel
theorem dc_Mo_line_47 : decode cd_Mo_line 47 = .ok (.ireturn, 1) := by decide +kernel
theorem dc_Mo_line_48 : decode cd_Mo_line 48 = .ok (.aload_n 0, 1) := by decide +kernel
theorem dc_Mo_line_49 : decode cd_Mo_line 49 = .ok (.iload_n 1, 1) := by decide +kernel
theorem dc_Mo_line_50 : decode cd_Mo_line 50 = .ok (.iload_n 2, 1) := by decide +kernel
theorem dc_Mo_line_51 : decode cd_Mo_line 51 = .ok (.invokevirtual 142, 3) := by decide +kernel
theorem dc_Mo_line_54 : decode cd_Mo_line 54 = .ok (.bipush 100, 2) := by decide +kernel
theorem dc_Mo_line_56 : decode cd_Mo_line 56 = .ok (.aload_n 0, 1) := by decide +kernel
theorem dc_Mo_line_57 : decode cd_Mo_line 57 = .ok (.iload_n 3, 1) := by decide +kernel
theorem dc_Mo_line_58 : decode cd_Mo_line 58 = .ok (.invokevirtual 128, 3) := by decide +kernel
theorem dc_Mo_line_61 : decode cd_Mo_line 61 = .ok (.imul, 1) := by decide +kernel
theorem dc_Mo_line_62 : decode cd_Mo_line 62 = .ok (.aload_n 0, 1) := by decide +kernel
theorem dc_Mo_line_63 : decode cd_Mo_line 63 = .ok (.iload_n 3, 1) := by decide +kernel
theorem dc_Mo_line_64 : decode cd_Mo_line 64 = .ok (.invokevirtual 132, 3) := by decide +kernel
theorem dc_Mo_line_67 : decode cd_Mo_line 67 = .ok (.iadd, 1) := by decide +kernel
theorem dc_Mo_line_68 : decode cd_Mo_line 68 = .ok (.ireturn, 1) := by decide +kernel
