theorem dc_Ch_layOut_0 : decode cd_Ch_layOut 0 = .ok (.iload_n 1, 1) := by decide +kernel
theorem dc_Ch_layOut_1 : decode cd_Ch_layOut 1 = .ok (.istore_n 3, 1) := by decide +kernel
theorem dc_Ch_layOut_2 : decode cd_Ch_layOut 2 = .ok (.aload_n 0, 1) := by decide +kernel
theorem dc_Ch_layOut_3 : decode cd_Ch_layOut 3 = .ok (.getfield 9, 3) := by decide +kernel
theorem dc_Ch_layOut_6 : decode cd_Ch_layOut 6 = .ok (.iconst 1, 1) := by decide +kernel
theorem dc_Ch_layOut_7 : decode cd_Ch_layOut 7 = .ok (.isub, 1) := by decide +kernel
theorem dc_Ch_layOut_8 : decode cd_Ch_layOut 8 = .ok (.istore 4, 2) := by decide +kernel
theorem dc_Ch_layOut_10 : decode cd_Ch_layOut 10 = .ok (.iload 4, 2) := by decide +kernel
theorem dc_Ch_layOut_12 : decode cd_Ch_layOut 12 = .ok (.ifCond .lt 66, 3) := by decide +kernel
theorem dc_Ch_layOut_15 : decode cd_Ch_layOut 15 = .ok (.aload_n 0, 1) := by decide +kernel
theorem dc_Ch_layOut_16 : decode cd_Ch_layOut 16 = .ok (.getfield 9, 3) := by decide +kernel
theorem dc_Ch_layOut_19 : decode cd_Ch_layOut 19 = .ok (.iload 4, 2) := by decide +kernel
theorem dc_Ch_layOut_21 : decode cd_Ch_layOut 21 = .ok (.isub, 1) := by decide +kernel
theorem dc_Ch_layOut_22 : decode cd_Ch_layOut 22 = .ok (.istore 5, 2) := by decide +kernel
theorem dc_Ch_layOut_24 : decode cd_Ch_layOut 24 = .ok (.iload_n 3, 1) := by decide +kernel
theorem dc_Ch_layOut_25 : decode cd_Ch_layOut 25 = .ok (.iconst 2, 1) := by decide +kernel
theorem dc_Ch_layOut_26 : decode cd_Ch_layOut 26 = .ok (.iload 5, 2) := by decide +kernel
theorem dc_Ch_layOut_28 : decode cd_Ch_layOut 28 = .ok (.imul, 1) := by decide +kernel
theorem dc_Ch_layOut_29 : decode cd_Ch_layOut 29 = .ok (.irem, 1) := by decide +kernel
theorem dc_Ch_layOut_30 : decode cd_Ch_layOut 30 = .ok (.istore 6, 2) := by decide +kernel
theorem dc_Ch_layOut_32 : decode cd_Ch_layOut 32 = .ok (.iload_n 3, 1) := by decide +kernel
theorem dc_Ch_layOut_33 : decode cd_Ch_layOut 33 = .ok (.iconst 2, 1) := by decide +kernel
theorem dc_Ch_layOut_34 : decode cd_Ch_layOut 34 = .ok (.iload 5, 2) := by decide +kernel
theorem dc_Ch_layOut_36 : decode cd_Ch_layOut 36 = .ok (.imul, 1) := by decide +kernel
theorem dc_Ch_layOut_37 : decode cd_Ch_layOut 37 = .ok (.idiv, 1) := by decide +kernel
theorem dc_Ch_layOut_38 : decode cd_Ch_layOut 38 = .ok (.istore_n 3, 1) := by decide +kernel
theorem dc_Ch_layOut_39 : decode cd_Ch_layOut 39 = .ok (.aload_n 2, 1) := by decide +kernel
theorem dc_Ch_layOut_40 : decode cd_Ch_layOut 40 = .ok (.iload 4, 2) := by decide +kernel
theorem dc_Ch_layOut_42 : decode cd_Ch_layOut 42 = .ok (.iload 6, 2) := by decide +kernel
theorem dc_Ch_layOut_44 : decode cd_Ch_layOut 44 = .ok (.iload 5, 2) := by decide +kernel
theorem dc_Ch_layOut_46 : decode cd_Ch_layOut 46 = .ok (.if_icmp .ge 11, 3) := by decide +kernel
theorem dc_Ch_layOut_49 : decode cd_Ch_layOut 49 = .ok (.iload 6, 2) := by decide +kernel
theorem dc_Ch_layOut_51 : decode cd_Ch_layOut 51 = .ok (.iload 5, 2) := by decide +kernel
theorem dc_Ch_layOut_53 : decode cd_Ch_layOut 53 = .ok (.isub, 1) := by decide +kernel
theorem dc_Ch_layOut_54 : decode cd_Ch_layOut 54 = .ok (.goto 10, 3) := by decide +kernel
theorem dc_Ch_layOut_57 : decode cd_Ch_layOut 57 = .ok (.iload 6, 2) := by decide +kernel
theorem dc_Ch_layOut_59 : decode cd_Ch_layOut 59 = .ok (.iload 5, 2) := by decide +kernel
theorem dc_Ch_layOut_61 : decode cd_Ch_layOut 61 = .ok (.isub, 1) := by decide +kernel
theorem dc_Ch_layOut_62 : decode cd_Ch_layOut 62 = .ok (.iconst 1, 1) := by decide +kernel
theorem dc_Ch_layOut_63 : decode cd_Ch_layOut 63 = .ok (.iadd, 1) := by decide +kernel
theorem dc_Ch_layOut_64 : decode cd_Ch_layOut 64 = .ok (.iastore, 1) := by decide +kernel
theorem dc_Ch_layOut_65 : decode cd_Ch_layOut 65 = .ok (.aload_n 0, 1) := by decide +kernel
theorem dc_Ch_layOut_66 : decode cd_Ch_layOut 66 = .ok (.aload_n 2, 1) := by decide +kernel
theorem dc_Ch_layOut_67 : decode cd_Ch_layOut 67 = .ok (.iload 4, 2) := by decide +kernel
theorem dc_Ch_layOut_69 : decode cd_Ch_layOut 69 = .ok (.invokevirtual 49, 3) := by decide +kernel
theorem dc_Ch_layOut_72 : decode cd_Ch_layOut 72 = .ok (.iinc 4 (-1), 3) := by decide +kernel
theorem dc_Ch_layOut_75 : decode cd_Ch_layOut 75 = .ok (.goto (-65), 3) := by decide +kernel
theorem dc_Ch_layOut_78 : decode cd_Ch_layOut 78 = .ok (.return_, 1) := by decide +kernel
theorem dc_Ch_makeRoom_0 : decode cd_Ch_makeRoom 0 = .ok (.iload_n 2, 1) := by decide +kernel
theorem dc_Ch_makeRoom_1 : decode cd_Ch_makeRoom 1 = .ok (.iconst 1, 1) := by decide +kernel
theorem dc_Ch_makeRoom_2 : decode cd_Ch_makeRoom 2 = .ok (.iadd, 1) := by decide +kernel
theorem dc_Ch_makeRoom_3 : decode cd_Ch_makeRoom 3 = .ok (.istore_n 3, 1) := by decide +kernel
theorem dc_Ch_makeRoom_4 : decode cd_Ch_makeRoom 4 = .ok (.iload_n 3, 1) := by decide +kernel
theorem dc_Ch_makeRoom_5 : decode cd_Ch_makeRoom 5 = .ok (.aload_n 0, 1) := by decide +kernel
theorem dc_Ch_makeRoom_6 : decode cd_Ch_makeRoom 6 = .ok (.getfield 9, 3) := by decide +kernel
theorem dc_Ch_makeRoom_9 : decode cd_Ch_makeRoom 9 = .ok (.if_icmp .ge 41, 3) := by decide +kernel
theorem dc_Ch_makeRoom_12 : decode cd_Ch_makeRoom 12 = .ok (.aload_n 1, 1) := by decide +kernel
theorem dc_Ch_makeRoom_13 : decode cd_Ch_makeRoom 13 = .ok (.iload_n 3, 1) := by decide +kernel
theorem dc_Ch_makeRoom_14 : decode cd_Ch_makeRoom 14 = .ok (.iaload, 1) := by decide +kernel
theorem dc_Ch_makeRoom_15 : decode cd_Ch_makeRoom 15 = .ok (.invokestatic 43, 3) := by decide +kernel
theorem dc_Ch_makeRoom_18 : decode cd_Ch_makeRoom 18 = .ok (.aload_n 1, 1) := by decide +kernel
theorem dc_Ch_makeRoom_19 : decode cd_Ch_makeRoom 19 = .ok (.iload_n 2, 1) := by decide +kernel
theorem dc_Ch_makeRoom_20 : decode cd_Ch_makeRoom 20 = .ok (.iaload, 1) := by decide +kernel
theorem dc_Ch_makeRoom_21 : decode cd_Ch_makeRoom 21 = .ok (.invokestatic 43, 3) := by decide +kernel
theorem dc_Ch_makeRoom_24 : decode cd_Ch_makeRoom 24 = .ok (.if_icmp .lt 20, 3) := by decide +kernel
theorem dc_Ch_makeRoom_27 : decode cd_Ch_makeRoom 27 = .ok (.aload_n 1, 1) := by decide +kernel
theorem dc_Ch_makeRoom_28 : decode cd_Ch_makeRoom 28 = .ok (.iload_n 3, 1) := by decide +kernel
theorem dc_Ch_makeRoom_29 : decode cd_Ch_makeRoom 29 = .ok (.dup2, 1) := by decide +kernel
theorem dc_Ch_makeRoom_30 : decode cd_Ch_makeRoom 30 = .ok (.iaload, 1) := by decide +kernel
theorem dc_Ch_makeRoom_31 : decode cd_Ch_makeRoom 31 = .ok (.aload_n 1, 1) := by decide +kernel
theorem dc_Ch_makeRoom_32 : decode cd_Ch_makeRoom 32 = .ok (.iload_n 3, 1) := by decide +kernel
theorem dc_Ch_makeRoom_33 : decode cd_Ch_makeRoom 33 = .ok (.iaload, 1) := by decide +kernel
theorem dc_Ch_makeRoom_34 : decode cd_Ch_makeRoom 34 = .ok (.ifCond .le 7, 3) := by decide +kernel
theorem dc_Ch_makeRoom_37 : decode cd_Ch_makeRoom 37 = .ok (.iconst 1, 1) := by decide +kernel
theorem dc_Ch_makeRoom_38 : decode cd_Ch_makeRoom 38 = .ok (.goto 4, 3) := by decide +kernel
theorem dc_Ch_makeRoom_41 : decode cd_Ch_makeRoom 41 = .ok (.iconst (-1), 1) := by decide +kernel
theorem dc_Ch_makeRoom_42 : decode cd_Ch_makeRoom 42 = .ok (.iadd, 1) := by decide +kernel
theorem dc_Ch_makeRoom_43 : decode cd_Ch_makeRoom 43 = .ok (.iastore, 1) := by decide +kernel
theorem dc_Ch_makeRoom_44 : decode cd_Ch_makeRoom 44 = .ok (.iinc 3 1, 3) := by decide +kernel
theorem dc_Ch_makeRoom_47 : decode cd_Ch_makeRoom 47 = .ok (.goto (-43), 3) := by decide +kernel
theorem dc_Ch_makeRoom_50 : decode cd_Ch_makeRoom 50 = .ok (.return_, 1) := by decide +kernel
theorem dc_Ch_countAt_0 : decode cd_Ch_countAt 0 = .ok (.iconst 0, 1) := by decide +kernel
theorem dc_Ch_countAt_1 : decode cd_Ch_countAt 1 = .ok (.istore_n 2, 1) := by decide +kernel
theorem dc_Ch_countAt_2 : decode cd_Ch_countAt 2 = .ok (.iconst 0, 1) := by decide +kernel
theorem dc_Ch_countAt_3 : decode cd_Ch_countAt 3 = .ok (.istore_n 3, 1) := by decide +kernel
theorem dc_Ch_countAt_4 : decode cd_Ch_countAt 4 = .ok (.iload_n 3, 1) := by decide +kernel
theorem dc_Ch_countAt_5 : decode cd_Ch_countAt 5 = .ok (.aload_n 0, 1) := by decide +kernel
theorem dc_Ch_countAt_6 : decode cd_Ch_countAt 6 = .ok (.getfield 15, 3) := by decide +kernel
theorem dc_Ch_countAt_9 : decode cd_Ch_countAt 9 = .ok (.if_icmp .ge 22, 3) := by decide +kernel
theorem dc_Ch_countAt_12 : decode cd_Ch_countAt 12 = .ok (.aload_n 0, 1) := by decide +kernel
theorem dc_Ch_countAt_13 : decode cd_Ch_countAt 13 = .ok (.getfield 18, 3) := by decide +kernel
theorem dc_Ch_countAt_16 : decode cd_Ch_countAt 16 = .ok (.iload_n 3, 1) := by decide +kernel
theorem dc_Ch_countAt_17 : decode cd_Ch_countAt 17 = .ok (.iaload, 1) := by decide +kernel
theorem dc_Ch_countAt_18 : decode cd_Ch_countAt 18 = .ok (.iload_n 1, 1) := by decide +kernel
theorem dc_Ch_countAt_19 : decode cd_Ch_countAt 19 = .ok (.if_icmp .ne 6, 3) := by decide +kernel
theorem dc_Ch_countAt_22 : decode cd_Ch_countAt 22 = .ok (.iinc 2 1, 3) := by decide +kernel
theorem dc_Ch_countAt_25 : decode cd_Ch_countAt 25 = .ok (.iinc 3 1, 3) := by decide +kernel
theorem dc_Ch_countAt_28 : decode cd_Ch_countAt 28 = .ok (.goto (-24), 3) := by decide +kernel
theorem dc_Ch_countAt_31 : decode cd_Ch_countAt 31 = .ok (.iload_n 2, 1) := by decide +kernel
theorem dc_Ch_countAt_32 : decode cd_Ch_countAt 32 = .ok (.ireturn, 1) := by decide +kernel
theorem dc_Ch_waysToPlain_0 : decode cd_Ch_waysToPlain 0 = .ok (.aload_n 1, 1) := by decide +kernel
theorem dc_Ch_waysToPlain_1 : decode cd_Ch_waysToPlain 1 = .ok (.iconst 0, 1) := by decide +kernel
theorem dc_Ch_waysToPlain_2 : decode cd_Ch_waysToPlain 2 = .ok (.aload_n 0, 1) := by decide +kernel
theorem dc_Ch_waysToPlain_3 : decode cd_Ch_waysToPlain 3 = .ok (.getfield 26, 3) := by decide +kernel
theorem dc_Ch_waysToPlain_6 : decode cd_Ch_waysToPlain 6 = .ok (.iconst 0, 1) := by decide +kernel
theorem dc_Ch_waysToPlain_7 : decode cd_Ch_waysToPlain 7 = .ok (.aload_n 0, 1) := by decide +kernel
theorem dc_Ch_waysToPlain_8 : decode cd_Ch_waysToPlain 8 = .ok (.getfield 9, 3) := by decide +kernel
theorem dc_Ch_waysToPlain_11 : decode cd_Ch_waysToPlain 11 = .ok (.invokestatic 52, 3) := by decide +kernel
theorem dc_Ch_waysToPlain_14 : decode cd_Ch_waysToPlain 14 = .ok (.aload_n 0, 1) := by decide +kernel
theorem dc_Ch_waysToPlain_15 : decode cd_Ch_waysToPlain 15 = .ok (.aload_n 0, 1) := by decide +kernel
theorem dc_Ch_waysToPlain_16 : decode cd_Ch_waysToPlain 16 = .ok (.getfield 26, 3) := by decide +kernel
theorem dc_Ch_waysToPlain_19 : decode cd_Ch_waysToPlain 19 = .ok (.invokevirtual 58, 3) := by decide +kernel
theorem dc_Ch_waysToPlain_22 : decode cd_Ch_waysToPlain 22 = .ok (.istore_n 2, 1) := by decide +kernel
theorem dc_Ch_waysToPlain_23 : decode cd_Ch_waysToPlain 23 = .ok (.aload_n 0, 1) := by decide +kernel
theorem dc_Ch_waysToPlain_24 : decode cd_Ch_waysToPlain 24 = .ok (.iload_n 2, 1) := by decide +kernel
theorem dc_Ch_waysToPlain_25 : decode cd_Ch_waysToPlain 25 = .ok (.aload_n 0, 1) := by decide +kernel
theorem dc_Ch_waysToPlain_26 : decode cd_Ch_waysToPlain 26 = .ok (.getfield 18, 3) := by decide +kernel
theorem dc_Ch_waysToPlain_29 : decode cd_Ch_waysToPlain 29 = .ok (.iload_n 2, 1) := by decide +kernel
theorem dc_Ch_waysToPlain_30 : decode cd_Ch_waysToPlain 30 = .ok (.iaload, 1) := by decide +kernel
theorem dc_Ch_waysToPlain_31 : decode cd_Ch_waysToPlain 31 = .ok (.invokevirtual 62, 3) := by decide +kernel
theorem dc_Ch_waysToPlain_34 : decode cd_Ch_waysToPlain 34 = .ok (.lreturn, 1) := by decide +kernel
theorem dc_Ch_waysOfWalked_0 : decode cd_Ch_waysOfWalked 0 = .ok (.iload_n 2, 1) := by decide +kernel
theorem dc_Ch_waysOfWalked_1 : decode cd_Ch_waysOfWalked 1 = .ok (.ifCond .gt 5, 3) := by decide +kernel
theorem dc_Ch_waysOfWalked_4 : decode cd_Ch_waysOfWalked 4 = .ok (.lconst 1, 1) := by decide +kernel
theorem dc_Ch_waysOfWalked_5 : decode cd_Ch_waysOfWalked 5 = .ok (.lreturn, 1) := by decide +kernel
theorem dc_Ch_waysOfWalked_6 : decode cd_Ch_waysOfWalked 6 = .ok (.aload_n 0, 1) := by decide +kernel
theorem dc_Ch_waysOfWalked_7 : decode cd_Ch_waysOfWalked 7 = .ok (.getfield 22, 3) := by decide +kernel
theorem dc_Ch_waysOfWalked_10 : decode cd_Ch_waysOfWalked 10 = .ok (.iload_n 1, 1) := by decide +kernel
theorem dc_Ch_waysOfWalked_11 : decode cd_Ch_waysOfWalked 11 = .ok (.laload, 1) := by decide +kernel
theorem dc_Ch_waysOfWalked_12 : decode cd_Ch_waysOfWalked 12 = .ok (.lconst 0, 1) := by decide +kernel
theorem dc_Ch_waysOfWalked_13 : decode cd_Ch_waysOfWalked 13 = .ok (.lcmp, 1) := by decide +kernel
theorem dc_Ch_waysOfWalked_14 : decode cd_Ch_waysOfWalked 14 = .ok (.ifCond .ne 106, 3) := by decide +kernel
theorem dc_Ch_waysOfWalked_17 : decode cd_Ch_waysOfWalked 17 = .ok (.lconst 0, 1) := by decide +kernel
theorem dc_Ch_waysOfWalked_18 : decode cd_Ch_waysOfWalked 18 = .ok (.lstore_n 3, 1) := by decide +kernel
theorem dc_Ch_waysOfWalked_19 : decode cd_Ch_waysOfWalked 19 = .ok (.iconst 0, 1) := by decide +kernel
theorem dc_Ch_waysOfWalked_20 : decode cd_Ch_waysOfWalked 20 = .ok (.istore 5, 2) := by decide +kernel
theorem dc_Ch_waysOfWalked_22 : decode cd_Ch_waysOfWalked 22 = .ok (.iload 5, 2) := by decide +kernel
theorem dc_Ch_waysOfWalked_24 : decode cd_Ch_waysOfWalked 24 = .ok (.aload_n 0, 1) := by decide +kernel
theorem dc_Ch_waysOfWalked_25 : decode cd_Ch_waysOfWalked 25 = .ok (.getfield 9, 3) := by decide +kernel
theorem dc_Ch_waysOfWalked_28 : decode cd_Ch_waysOfWalked 28 = .ok (.if_icmp .ge 85, 3) := by decide +kernel
theorem dc_Ch_waysOfWalked_31 : decode cd_Ch_waysOfWalked 31 = .ok (.iload 5, 2) := by decide +kernel
theorem dc_Ch_waysOfWalked_33 : decode cd_Ch_waysOfWalked 33 = .ok (.istore 6, 2) := by decide +kernel
theorem dc_Ch_waysOfWalked_35 : decode cd_Ch_waysOfWalked 35 = .ok (.iload 6, 2) := by decide +kernel
theorem dc_Ch_waysOfWalked_37 : decode cd_Ch_waysOfWalked 37 = .ok (.aload_n 0, 1) := by decide +kernel
theorem dc_Ch_waysOfWalked_38 : decode cd_Ch_waysOfWalked 38 = .ok (.getfield 9, 3) := by decide +kernel
theorem dc_Ch_waysOfWalked_41 : decode cd_Ch_waysOfWalked 41 = .ok (.if_icmp .ge 66, 3) := by decide +kernel
theorem dc_Ch_waysOfWalked_44 : decode cd_Ch_waysOfWalked 44 = .ok (.aload_n 0, 1) := by decide +kernel
theorem dc_Ch_waysOfWalked_45 : decode cd_Ch_waysOfWalked 45 = .ok (.getfield 26, 3) := by decide +kernel
theorem dc_Ch_waysOfWalked_48 : decode cd_Ch_waysOfWalked 48 = .ok (.iload 5, 2) := by decide +kernel
theorem dc_Ch_waysOfWalked_50 : decode cd_Ch_waysOfWalked 50 = .ok (.iload 6, 2) := by decide +kernel
theorem dc_Ch_waysOfWalked_52 : decode cd_Ch_waysOfWalked 52 = .ok (.invokestatic 66, 3) := by decide +kernel
theorem dc_Ch_waysOfWalked_55 : decode cd_Ch_waysOfWalked 55 = .ok (.aload_n 0, 1) := by decide +kernel
theorem dc_Ch_waysOfWalked_56 : decode cd_Ch_waysOfWalked 56 = .ok (.aload_n 0, 1) := by decide +kernel
theorem dc_Ch_waysOfWalked_57 : decode cd_Ch_waysOfWalked 57 = .ok (.getfield 26, 3) := by decide +kernel
theorem dc_Ch_waysOfWalked_60 : decode cd_Ch_waysOfWalked 60 = .ok (.invokevirtual 58, 3) := by decide +kernel
theorem dc_Ch_waysOfWalked_63 : decode cd_Ch_waysOfWalked 63 = .ok (.istore 7, 2) := by decide +kernel
theorem dc_Ch_waysOfWalked_65 : decode cd_Ch_waysOfWalked 65 = .ok (.aload_n 0, 1) := by decide +kernel
theorem dc_Ch_waysOfWalked_66 : decode cd_Ch_waysOfWalked 66 = .ok (.getfield 18, 3) := by decide +kernel
theorem dc_Ch_waysOfWalked_69 : decode cd_Ch_waysOfWalked 69 = .ok (.iload 7, 2) := by decide +kernel
theorem dc_Ch_waysOfWalked_71 : decode cd_Ch_waysOfWalked 71 = .ok (.iaload, 1) := by decide +kernel
theorem dc_Ch_waysOfWalked_72 : decode cd_Ch_waysOfWalked 72 = .ok (.iload_n 2, 1) := by decide +kernel
theorem dc_Ch_waysOfWalked_73 : decode cd_Ch_waysOfWalked 73 = .ok (.iconst 1, 1) := by decide +kernel
theorem dc_Ch_waysOfWalked_74 : decode cd_Ch_waysOfWalked 74 = .ok (.isub, 1) := by decide +kernel
theorem dc_Ch_waysOfWalked_75 : decode cd_Ch_waysOfWalked 75 = .ok (.if_icmp .ne 15, 3) := by decide +kernel
theorem dc_Ch_waysOfWalked_78 : decode cd_Ch_waysOfWalked 78 = .ok (.lload_n 3, 1) := by decide +kernel
theorem dc_Ch_waysOfWalked_79 : decode cd_Ch_waysOfWalked 79 = .ok (.aload_n 0, 1) := by decide +kernel
theorem dc_Ch_waysOfWalked_80 : decode cd_Ch_waysOfWalked 80 = .ok (.iload 7, 2) := by decide +kernel
theorem dc_Ch_waysOfWalked_82 : decode cd_Ch_waysOfWalked 82 = .ok (.iload_n 2, 1) := by decide +kernel
theorem dc_Ch_waysOfWalked_83 : decode cd_Ch_waysOfWalked 83 = .ok (.iconst 1, 1) := by decide +kernel
theorem dc_Ch_waysOfWalked_84 : decode cd_Ch_waysOfWalked 84 = .ok (.isub, 1) := by decide +kernel
theorem dc_Ch_waysOfWalked_85 : decode cd_Ch_waysOfWalked 85 = .ok (.invokevirtual 62, 3) := by decide +kernel
theorem dc_Ch_waysOfWalked_88 : decode cd_Ch_waysOfWalked 88 = .ok (.ladd, 1) := by decide +kernel
theorem dc_Ch_waysOfWalked_89 : decode cd_Ch_waysOfWalked 89 = .ok (.lstore_n 3, 1) := by decide +kernel
theorem dc_Ch_waysOfWalked_90 : decode cd_Ch_waysOfWalked 90 = .ok (.aload_n 0, 1) := by decide +kernel
theorem dc_Ch_waysOfWalked_91 : decode cd_Ch_waysOfWalked 91 = .ok (.getfield 26, 3) := by decide +kernel
theorem dc_Ch_waysOfWalked_94 : decode cd_Ch_waysOfWalked 94 = .ok (.iload 5, 2) := by decide +kernel
theorem dc_Ch_waysOfWalked_96 : decode cd_Ch_waysOfWalked 96 = .ok (.iload 6, 2) := by decide +kernel
theorem dc_Ch_waysOfWalked_98 : decode cd_Ch_waysOfWalked 98 = .ok (.invokestatic 66, 3) := by decide +kernel
theorem dc_Ch_waysOfWalked_101 : decode cd_Ch_waysOfWalked 101 = .ok (.iinc 6 1, 3) := by decide +kernel
theorem dc_Ch_waysOfWalked_104 : decode cd_Ch_waysOfWalked 104 = .ok (.goto (-69), 3) := by decide +kernel
theorem dc_Ch_waysOfWalked_107 : decode cd_Ch_waysOfWalked 107 = .ok (.iinc 5 1, 3) := by decide +kernel
theorem dc_Ch_waysOfWalked_110 : decode cd_Ch_waysOfWalked 110 = .ok (.goto (-88), 3) := by decide +kernel
theorem dc_Ch_waysOfWalked_113 : decode cd_Ch_waysOfWalked 113 = .ok (.aload_n 0, 1) := by decide +kernel
theorem dc_Ch_waysOfWalked_114 : decode cd_Ch_waysOfWalked 114 = .ok (.getfield 22, 3) := by decide +kernel
theorem dc_Ch_waysOfWalked_117 : decode cd_Ch_waysOfWalked 117 = .ok (.iload_n 1, 1) := by decide +kernel
theorem dc_Ch_waysOfWalked_118 : decode cd_Ch_waysOfWalked 118 = .ok (.lload_n 3, 1) := by decide +kernel
theorem dc_Ch_waysOfWalked_119 : decode cd_Ch_waysOfWalked 119 = .ok (.lastore, 1) := by decide +kernel
theorem dc_Ch_waysOfWalked_120 : decode cd_Ch_waysOfWalked 120 = .ok (.aload_n 0, 1) := by decide +kernel
theorem dc_Ch_waysOfWalked_121 : decode cd_Ch_waysOfWalked 121 = .ok (.getfield 22, 3) := by decide +kernel
theorem dc_Ch_waysOfWalked_124 : decode cd_Ch_waysOfWalked 124 = .ok (.iload_n 1, 1) := by decide +kernel
theorem dc_Ch_waysOfWalked_125 : decode cd_Ch_waysOfWalked 125 = .ok (.laload, 1) := by decide +kernel
theorem dc_Ch_waysOfWalked_126 : decode cd_Ch_waysOfWalked 126 = .ok (.lreturn, 1) := by decide +kernel
theorem dc_Dr_init_0 : decode cd_Dr_init 0 = .ok (.aload_n 0, 1) := by decide +kernel
theorem dc_Dr_init_1 : decode cd_Dr_init 1 = .ok (.invokespecial 3, 3) := by decide +kernel
theorem dc_Dr_init_4 : decode cd_Dr_init 4 = .ok (.aload_n 0, 1) := by decide +kernel
theorem dc_Dr_init_5 : decode cd_Dr_init 5 = .ok (.bipush 7, 2) := by decide +kernel
theorem dc_Dr_init_7 : decode cd_Dr_init 7 = .ok (.newarray .int, 2) := by decide +kernel
theorem dc_Dr_init_9 : decode cd_Dr_init 9 = .ok (.putfield 11, 3) := by decide +kernel
theorem dc_Dr_init_12 : decode cd_Dr_init 12 = .ok (.aload_n 0, 1) := by decide +kernel
theorem dc_Dr_init_13 : decode cd_Dr_init 13 = .ok (.bipush 7, 2) := by decide +kernel
theorem dc_Dr_init_15 : decode cd_Dr_init 15 = .ok (.newarray .int, 2) := by decide +kernel
theorem dc_Dr_init_17 : decode cd_Dr_init 17 = .ok (.putfield 15, 3) := by decide +kernel
theorem dc_Dr_init_20 : decode cd_Dr_init 20 = .ok (.aload_n 0, 1) := by decide +kernel
theorem dc_Dr_init_21 : decode cd_Dr_init 21 = .ok (.bipush 8, 2) := by decide +kernel
theorem dc_Dr_init_23 : decode cd_Dr_init 23 = .ok (.newarray .int, 2) := by decide +kernel
theorem dc_Dr_init_25 : decode cd_Dr_init 25 = .ok (.putfield 18, 3) := by decide +kernel
theorem dc_Dr_init_28 : decode cd_Dr_init 28 = .ok (.aload_n 0, 1) := by decide +kernel
theorem dc_Dr_init_29 : decode cd_Dr_init 29 = .ok (.bipush 14, 2) := by decide +kernel
theorem dc_Dr_init_31 : decode cd_Dr_init 31 = .ok (.newarray .int, 2) := by decide +kernel
theorem dc_Dr_init_33 : decode cd_Dr_init 33 = .ok (.putfield 21, 3) := by decide +kernel
theorem dc_Dr_init_36 : decode cd_Dr_init 36 = .ok (.aload_n 0, 1) := by decide +kernel
theorem dc_Dr_init_37 : decode cd_Dr_init 37 = .ok (.bipush 14, 2) := by decide +kernel
theorem dc_Dr_init_39 : decode cd_Dr_init 39 = .ok (.newarray .int, 2) := by decide +kernel
theorem dc_Dr_init_41 : decode cd_Dr_init 41 = .ok (.putfield 24, 3) := by decide +kernel
theorem dc_Dr_init_44 : decode cd_Dr_init 44 = .ok (.aload_n 0, 1) := by decide +kernel
theorem dc_Dr_init_45 : decode cd_Dr_init 45 = .ok (.bipush 14, 2) := by decide +kernel
theorem dc_Dr_init_47 : decode cd_Dr_init 47 = .ok (.newarray .boolean, 2) := by decide +kernel
theorem dc_Dr_init_49 : decode cd_Dr_init 49 = .ok (.putfield 27, 3) := by decide +kernel
theorem dc_Dr_init_52 : decode cd_Dr_init 52 = .ok (.aload_n 0, 1) := by decide +kernel
theorem dc_Dr_init_53 : decode cd_Dr_init 53 = .ok (.bipush 7, 2) := by decide +kernel
theorem dc_Dr_init_55 : decode cd_Dr_init 55 = .ok (.newarray .int, 2) := by decide +kernel
theorem dc_Dr_init_57 : decode cd_Dr_init 57 = .ok (.putfield 31, 3) := by decide +kernel
theorem dc_Dr_init_60 : decode cd_Dr_init 60 = .ok (.aload_n 0, 1) := by decide +kernel
theorem dc_Dr_init_61 : decode cd_Dr_init 61 = .ok (.bipush 7, 2) := by decide +kernel
theorem dc_Dr_init_63 : decode cd_Dr_init 63 = .ok (.newarray .boolean, 2) := by decide +kernel
theorem dc_Dr_init_65 : decode cd_Dr_init 65 = .ok (.putfield 34, 3) := by decide +kernel
theorem dc_Dr_init_68 : decode cd_Dr_init 68 = .ok (.aload_n 0, 1) := by decide +kernel
theorem dc_Dr_init_69 : decode cd_Dr_init 69 = .ok (.bipush 14, 2) := by decide +kernel
theorem dc_Dr_init_71 : decode cd_Dr_init 71 = .ok (.newarray .int, 2) := by decide +kernel
theorem dc_Dr_init_73 : decode cd_Dr_init 73 = .ok (.putfield 37, 3) := by decide +kernel
theorem dc_Dr_init_76 : decode cd_Dr_init 76 = .ok (.return_, 1) := by decide +kernel
theorem dc_Dr_draw_0 : decode cd_Dr_draw 0 = .ok (.aload_n 0, 1) := by decide +kernel
theorem dc_Dr_draw_1 : decode cd_Dr_draw 1 = .ok (.iload_n 2, 1) := by decide +kernel
theorem dc_Dr_draw_2 : decode cd_Dr_draw 2 = .ok (.iconst 1, 1) := by decide +kernel
theorem dc_Dr_draw_3 : decode cd_Dr_draw 3 = .ok (.iadd, 1) := by decide +kernel
theorem dc_Dr_draw_4 : decode cd_Dr_draw 4 = .ok (.putfield 40, 3) := by decide +kernel
theorem dc_Dr_draw_7 : decode cd_Dr_draw 7 = .ok (.aload_n 0, 1) := by decide +kernel
theorem dc_Dr_draw_8 : decode cd_Dr_draw 8 = .ok (.iconst 2, 1) := by decide +kernel
theorem dc_Dr_draw_9 : decode cd_Dr_draw 9 = .ok (.iload_n 2, 1) := by decide +kernel
theorem dc_Dr_draw_10 : decode cd_Dr_draw 10 = .ok (.imul, 1) := by decide +kernel
theorem dc_Dr_draw_11 : decode cd_Dr_draw 11 = .ok (.iconst 2, 1) := by decide +kernel
theorem dc_Dr_draw_12 : decode cd_Dr_draw 12 = .ok (.iadd, 1) := by decide +kernel
theorem dc_Dr_draw_13 : decode cd_Dr_draw 13 = .ok (.putfield 44, 3) := by decide +kernel
theorem dc_Dr_draw_16 : decode cd_Dr_draw 16 = .ok (.aload_n 0, 1) := by decide +kernel
theorem dc_Dr_draw_17 : decode cd_Dr_draw 17 = .ok (.getfield 18, 3) := by decide +kernel
theorem dc_Dr_draw_20 : decode cd_Dr_draw 20 = .ok (.iconst 0, 1) := by decide +kernel
theorem dc_Dr_draw_21 : decode cd_Dr_draw 21 = .ok (.iconst 0, 1) := by decide +kernel
theorem dc_Dr_draw_22 : decode cd_Dr_draw 22 = .ok (.iastore, 1) := by decide +kernel
theorem dc_Dr_draw_23 : decode cd_Dr_draw 23 = .ok (.aload_n 0, 1) := by decide +kernel
theorem dc_Dr_draw_24 : decode cd_Dr_draw 24 = .ok (.getfield 18, 3) := by decide +kernel
theorem dc_Dr_draw_27 : decode cd_Dr_draw 27 = .ok (.iload_n 2, 1) := by decide +kernel
theorem dc_Dr_draw_28 : decode cd_Dr_draw 28 = .ok (.iconst 1, 1) := by decide +kernel
theorem dc_Dr_draw_29 : decode cd_Dr_draw 29 = .ok (.iadd, 1) := by decide +kernel
theorem dc_Dr_draw_30 : decode cd_Dr_draw 30 = .ok (.iload_n 2, 1) := by decide +kernel
theorem dc_Dr_draw_31 : decode cd_Dr_draw 31 = .ok (.iconst 1, 1) := by decide +kernel
theorem dc_Dr_draw_32 : decode cd_Dr_draw 32 = .ok (.iadd, 1) := by decide +kernel
theorem dc_Dr_draw_33 : decode cd_Dr_draw 33 = .ok (.iastore, 1) := by decide +kernel
theorem dc_Dr_draw_34 : decode cd_Dr_draw 34 = .ok (.aload_n 0, 1) := by decide +kernel
theorem dc_Dr_draw_35 : decode cd_Dr_draw 35 = .ok (.iconst 0, 1) := by decide +kernel
theorem dc_Dr_draw_36 : decode cd_Dr_draw 36 = .ok (.iconst 0, 1) := by decide +kernel
theorem dc_Dr_draw_37 : decode cd_Dr_draw 37 = .ok (.invokevirtual 47, 3) := by decide +kernel
theorem dc_Dr_draw_40 : decode cd_Dr_draw 40 = .ok (.aload_n 0, 1) := by decide +kernel
theorem dc_Dr_draw_41 : decode cd_Dr_draw 41 = .ok (.iconst 2, 1) := by decide +kernel
theorem dc_Dr_draw_42 : decode cd_Dr_draw 42 = .ok (.iload_n 2, 1) := by decide +kernel
theorem dc_Dr_draw_43 : decode cd_Dr_draw 43 = .ok (.imul, 1) := by decide +kernel
theorem dc_Dr_draw_44 : decode cd_Dr_draw 44 = .ok (.iconst 1, 1) := by decide +kernel
theorem dc_Dr_draw_45 : decode cd_Dr_draw 45 = .ok (.iadd, 1) := by decide +kernel
theorem dc_Dr_draw_46 : decode cd_Dr_draw 46 = .ok (.iconst 2, 1) := by decide +kernel
theorem dc_Dr_draw_47 : decode cd_Dr_draw 47 = .ok (.iload_n 2, 1) := by decide +kernel
theorem dc_Dr_draw_48 : decode cd_Dr_draw 48 = .ok (.imul, 1) := by decide +kernel
theorem dc_Dr_draw_49 : decode cd_Dr_draw 49 = .ok (.iconst 1, 1) := by decide +kernel
theorem dc_Dr_draw_50 : decode cd_Dr_draw 50 = .ok (.iadd, 1) := by decide +kernel
theorem dc_Dr_draw_51 : decode cd_Dr_draw 51 = .ok (.invokevirtual 47, 3) := by decide +kernel
theorem dc_Dr_draw_54 : decode cd_Dr_draw 54 = .ok (.iconst 0, 1) := by decide +kernel
theorem dc_Dr_draw_55 : decode cd_Dr_draw 55 = .ok (.istore_n 3, 1) := by decide +kernel
theorem dc_Dr_draw_56 : decode cd_Dr_draw 56 = .ok (.iload_n 3, 1) := by decide +kernel
theorem dc_Dr_draw_57 : decode cd_Dr_draw 57 = .ok (.iload_n 2, 1) := by decide +kernel
theorem dc_Dr_draw_58 : decode cd_Dr_draw 58 = .ok (.if_icmp .ge 80, 3) := by decide +kernel
theorem dc_Dr_draw_61 : decode cd_Dr_draw 61 = .ok (.aload_n 1, 1) := by decide +kernel
theorem dc_Dr_draw_62 : decode cd_Dr_draw 62 = .ok (.iload_n 3, 1) := by decide +kernel
theorem dc_Dr_draw_63 : decode cd_Dr_draw 63 = .ok (.iaload, 1) := by decide +kernel
theorem dc_Dr_draw_64 : decode cd_Dr_draw 64 = .ok (.istore 4, 2) := by decide +kernel
theorem dc_Dr_draw_66 : decode cd_Dr_draw 66 = .ok (.aload_n 0, 1) := by decide +kernel
theorem dc_Dr_draw_67 : decode cd_Dr_draw 67 = .ok (.getfield 18, 3) := by decide +kernel
theorem dc_Dr_draw_70 : decode cd_Dr_draw 70 = .ok (.iload_n 3, 1) := by decide +kernel
theorem dc_Dr_draw_71 : decode cd_Dr_draw 71 = .ok (.iconst 1, 1) := by decide +kernel
theorem dc_Dr_draw_72 : decode cd_Dr_draw 72 = .ok (.iadd, 1) := by decide +kernel
theorem dc_Dr_draw_73 : decode cd_Dr_draw 73 = .ok (.iload 4, 2) := by decide +kernel
theorem dc_Dr_draw_75 : decode cd_Dr_draw 75 = .ok (.iastore, 1) := by decide +kernel
theorem dc_Dr_draw_76 : decode cd_Dr_draw 76 = .ok (.aload_n 0, 1) := by decide +kernel
theorem dc_Dr_draw_77 : decode cd_Dr_draw 77 = .ok (.iload 4, 2) := by decide +kernel
theorem dc_Dr_draw_79 : decode cd_Dr_draw 79 = .ok (.ifCond .le 12, 3) := by decide +kernel
theorem dc_Dr_draw_82 : decode cd_Dr_draw 82 = .ok (.iconst 2, 1) := by decide +kernel
theorem dc_Dr_draw_83 : decode cd_Dr_draw 83 = .ok (.iload 4, 2) := by decide +kernel
theorem dc_Dr_draw_85 : decode cd_Dr_draw 85 = .ok (.imul, 1) := by decide +kernel
theorem dc_Dr_draw_86 : decode cd_Dr_draw 86 = .ok (.iconst 1, 1) := by decide +kernel
theorem dc_Dr_draw_87 : decode cd_Dr_draw 87 = .ok (.isub, 1) := by decide +kernel
theorem dc_Dr_draw_88 : decode cd_Dr_draw 88 = .ok (.goto 8, 3) := by decide +kernel
theorem dc_Dr_draw_91 : decode cd_Dr_draw 91 = .ok (.bipush (-2), 2) := by decide +kernel
theorem dc_Dr_draw_93 : decode cd_Dr_draw 93 = .ok (.iload 4, 2) := by decide +kernel
theorem dc_Dr_draw_95 : decode cd_Dr_draw 95 = .ok (.imul, 1) := by decide +kernel
theorem dc_Dr_draw_96 : decode cd_Dr_draw 96 = .ok (.iconst 2, 1) := by decide +kernel
theorem dc_Dr_draw_97 : decode cd_Dr_draw 97 = .ok (.iload_n 3, 1) := by decide +kernel
theorem dc_Dr_draw_98 : decode cd_Dr_draw 98 = .ok (.imul, 1) := by decide +kernel
theorem dc_Dr_draw_99 : decode cd_Dr_draw 99 = .ok (.iconst 1, 1) := by decide +kernel
theorem dc_Dr_draw_100 : decode cd_Dr_draw 100 = .ok (.iadd, 1) := by decide +kernel
theorem dc_Dr_draw_101 : decode cd_Dr_draw 101 = .ok (.invokevirtual 47, 3) := by decide +kernel
theorem dc_Dr_draw_104 : decode cd_Dr_draw 104 = .ok (.aload_n 0, 1) := by decide +kernel
theorem dc_Dr_draw_105 : decode cd_Dr_draw 105 = .ok (.iload 4, 2) := by decide +kernel
theorem dc_Dr_draw_107 : decode cd_Dr_draw 107 = .ok (.ifCond .le 10, 3) := by decide +kernel
theorem dc_Dr_draw_110 : decode cd_Dr_draw 110 = .ok (.iconst 2, 1) := by decide +kernel
theorem dc_Dr_draw_111 : decode cd_Dr_draw 111 = .ok (.iload 4, 2) := by decide +kernel
theorem dc_Dr_draw_113 : decode cd_Dr_draw 113 = .ok (.imul, 1) := by decide +kernel
theorem dc_Dr_draw_114 : decode cd_Dr_draw 114 = .ok (.goto 10, 3) := by decide +kernel
theorem dc_Dr_draw_117 : decode cd_Dr_draw 117 = .ok (.bipush (-2), 2) := by decide +kernel
theorem dc_Dr_draw_119 : decode cd_Dr_draw 119 = .ok (.iload 4, 2) := by decide +kernel
theorem dc_Dr_draw_121 : decode cd_Dr_draw 121 = .ok (.imul, 1) := by decide +kernel
theorem dc_Dr_draw_122 : decode cd_Dr_draw 122 = .ok (.iconst 1, 1) := by decide +kernel
theorem dc_Dr_draw_123 : decode cd_Dr_draw 123 = .ok (.isub, 1) := by decide +kernel
theorem dc_Dr_draw_124 : decode cd_Dr_draw 124 = .ok (.iconst 2, 1) := by decide +kernel
theorem dc_Dr_draw_125 : decode cd_Dr_draw 125 = .ok (.iload_n 3, 1) := by decide +kernel
theorem dc_Dr_draw_126 : decode cd_Dr_draw 126 = .ok (.imul, 1) := by decide +kernel
theorem dc_Dr_draw_127 : decode cd_Dr_draw 127 = .ok (.iconst 2, 1) := by decide +kernel
theorem dc_Dr_draw_128 : decode cd_Dr_draw 128 = .ok (.iadd, 1) := by decide +kernel
theorem dc_Dr_draw_129 : decode cd_Dr_draw 129 = .ok (.invokevirtual 47, 3) := by decide +kernel
theorem dc_Dr_draw_132 : decode cd_Dr_draw 132 = .ok (.iinc 3 1, 3) := by decide +kernel
theorem dc_Dr_draw_135 : decode cd_Dr_draw 135 = .ok (.goto (-79), 3) := by decide +kernel
theorem dc_Dr_draw_138 : decode cd_Dr_draw 138 = .ok (.iconst 0, 1) := by decide +kernel
theorem dc_Dr_draw_139 : decode cd_Dr_draw 139 = .ok (.istore_n 3, 1) := by decide +kernel
theorem dc_Dr_draw_140 : decode cd_Dr_draw 140 = .ok (.iload_n 3, 1) := by decide +kernel
theorem dc_Dr_draw_141 : decode cd_Dr_draw 141 = .ok (.aload_n 0, 1) := by decide +kernel
theorem dc_Dr_draw_142 : decode cd_Dr_draw 142 = .ok (.getfield 40, 3) := by decide +kernel
theorem dc_Dr_draw_145 : decode cd_Dr_draw 145 = .ok (.if_icmp .ge 63, 3) := by decide +kernel
theorem dc_Dr_draw_148 : decode cd_Dr_draw 148 = .ok (.aload_n 0, 1) := by decide +kernel
theorem dc_Dr_draw_149 : decode cd_Dr_draw 149 = .ok (.getfield 11, 3) := by decide +kernel
theorem dc_Dr_draw_152 : decode cd_Dr_draw 152 = .ok (.iload_n 3, 1) := by decide +kernel
theorem dc_Dr_draw_153 : decode cd_Dr_draw 153 = .ok (.aload_n 0, 1) := by decide +kernel
theorem dc_Dr_draw_154 : decode cd_Dr_draw 154 = .ok (.getfield 24, 3) := by decide +kernel
theorem dc_Dr_draw_157 : decode cd_Dr_draw 157 = .ok (.iconst 2, 1) := by decide +kernel
theorem dc_Dr_draw_158 : decode cd_Dr_draw 158 = .ok (.iload_n 3, 1) := by decide +kernel
theorem dc_Dr_draw_159 : decode cd_Dr_draw 159 = .ok (.imul, 1) := by decide +kernel
theorem dc_Dr_draw_160 : decode cd_Dr_draw 160 = .ok (.iaload, 1) := by decide +kernel
theorem dc_Dr_draw_161 : decode cd_Dr_draw 161 = .ok (.aload_n 0, 1) := by decide +kernel
theorem dc_Dr_draw_162 : decode cd_Dr_draw 162 = .ok (.getfield 24, 3) := by decide +kernel
theorem dc_Dr_draw_165 : decode cd_Dr_draw 165 = .ok (.iconst 2, 1) := by decide +kernel
theorem dc_Dr_draw_166 : decode cd_Dr_draw 166 = .ok (.iload_n 3, 1) := by decide +kernel
theorem dc_Dr_draw_167 : decode cd_Dr_draw 167 = .ok (.imul, 1) := by decide +kernel
theorem dc_Dr_draw_168 : decode cd_Dr_draw 168 = .ok (.iconst 1, 1) := by decide +kernel
theorem dc_Dr_draw_169 : decode cd_Dr_draw 169 = .ok (.iadd, 1) := by decide +kernel
theorem dc_Dr_draw_170 : decode cd_Dr_draw 170 = .ok (.iaload, 1) := by decide +kernel
theorem dc_Dr_draw_171 : decode cd_Dr_draw 171 = .ok (.invokestatic 51, 3) := by decide +kernel
theorem dc_Dr_draw_174 : decode cd_Dr_draw 174 = .ok (.iastore, 1) := by decide +kernel
theorem dc_Dr_draw_175 : decode cd_Dr_draw 175 = .ok (.aload_n 0, 1) := by decide +kernel
theorem dc_Dr_draw_176 : decode cd_Dr_draw 176 = .ok (.getfield 15, 3) := by decide +kernel
theorem dc_Dr_draw_179 : decode cd_Dr_draw 179 = .ok (.iload_n 3, 1) := by decide +kernel
theorem dc_Dr_draw_180 : decode cd_Dr_draw 180 = .ok (.aload_n 0, 1) := by decide +kernel
theorem dc_Dr_draw_181 : decode cd_Dr_draw 181 = .ok (.getfield 24, 3) := by decide +kernel
theorem dc_Dr_draw_184 : decode cd_Dr_draw 184 = .ok (.iconst 2, 1) := by decide +kernel
theorem dc_Dr_draw_185 : decode cd_Dr_draw 185 = .ok (.iload_n 3, 1) := by decide +kernel
theorem dc_Dr_draw_186 : decode cd_Dr_draw 186 = .ok (.imul, 1) := by decide +kernel
theorem dc_Dr_draw_187 : decode cd_Dr_draw 187 = .ok (.iaload, 1) := by decide +kernel
theorem dc_Dr_draw_188 : decode cd_Dr_draw 188 = .ok (.aload_n 0, 1) := by decide +kernel
theorem dc_Dr_draw_189 : decode cd_Dr_draw 189 = .ok (.getfield 24, 3) := by decide +kernel
theorem dc_Dr_draw_192 : decode cd_Dr_draw 192 = .ok (.iconst 2, 1) := by decide +kernel
theorem dc_Dr_draw_193 : decode cd_Dr_draw 193 = .ok (.iload_n 3, 1) := by decide +kernel
theorem dc_Dr_draw_194 : decode cd_Dr_draw 194 = .ok (.imul, 1) := by decide +kernel
theorem dc_Dr_draw_195 : decode cd_Dr_draw 195 = .ok (.iconst 1, 1) := by decide +kernel
theorem dc_Dr_draw_196 : decode cd_Dr_draw 196 = .ok (.iadd, 1) := by decide +kernel
theorem dc_Dr_draw_197 : decode cd_Dr_draw 197 = .ok (.iaload, 1) := by decide +kernel
theorem dc_Dr_draw_198 : decode cd_Dr_draw 198 = .ok (.invokestatic 57, 3) := by decide +kernel
theorem dc_Dr_draw_201 : decode cd_Dr_draw 201 = .ok (.iastore, 1) := by decide +kernel
theorem dc_Dr_draw_202 : decode cd_Dr_draw 202 = .ok (.iinc 3 1, 3) := by decide +kernel
theorem dc_Dr_draw_205 : decode cd_Dr_draw 205 = .ok (.goto (-65), 3) := by decide +kernel
theorem dc_Dr_draw_208 : decode cd_Dr_draw 208 = .ok (.aload_n 0, 1) := by decide +kernel
theorem dc_Dr_draw_209 : decode cd_Dr_draw 209 = .ok (.invokevirtual 60, 3) := by decide +kernel
theorem dc_Dr_draw_212 : decode cd_Dr_draw 212 = .ok (.aload_n 0, 1) := by decide +kernel
theorem dc_Dr_draw_213 : decode cd_Dr_draw 213 = .ok (.invokevirtual 63, 3) := by decide +kernel
theorem dc_Dr_draw_216 : decode cd_Dr_draw 216 = .ok (.return_, 1) := by decide +kernel
theorem dc_Dr_putEnd_0 : decode cd_Dr_putEnd 0 = .ok (.aload_n 0, 1) := by decide +kernel
theorem dc_Dr_putEnd_1 : decode cd_Dr_putEnd 1 = .ok (.getfield 21, 3) := by decide +kernel
theorem dc_Dr_putEnd_4 : decode cd_Dr_putEnd 4 = .ok (.iload_n 2, 1) := by decide +kernel
theorem dc_Dr_putEnd_5 : decode cd_Dr_putEnd 5 = .ok (.iload_n 1, 1) := by decide +kernel
theorem dc_Dr_putEnd_6 : decode cd_Dr_putEnd 6 = .ok (.iastore, 1) := by decide +kernel
theorem dc_Dr_putEnd_7 : decode cd_Dr_putEnd 7 = .ok (.aload_n 0, 1) := by decide +kernel
theorem dc_Dr_putEnd_8 : decode cd_Dr_putEnd 8 = .ok (.getfield 24, 3) := by decide +kernel
theorem dc_Dr_putEnd_11 : decode cd_Dr_putEnd 11 = .ok (.iload_n 1, 1) := by decide +kernel
theorem dc_Dr_putEnd_12 : decode cd_Dr_putEnd 12 = .ok (.iload_n 2, 1) := by decide +kernel
theorem dc_Dr_putEnd_13 : decode cd_Dr_putEnd 13 = .ok (.iastore, 1) := by decide +kernel
theorem dc_Dr_putEnd_14 : decode cd_Dr_putEnd 14 = .ok (.return_, 1) := by decide +kernel
theorem dc_Dr_joinParts_0 : decode cd_Dr_joinParts 0 = .ok (.iconst 0, 1) := by decide +kernel
theorem dc_Dr_joinParts_1 : decode cd_Dr_joinParts 1 = .ok (.istore_n 1, 1) := by decide +kernel
theorem dc_Dr_joinParts_2 : decode cd_Dr_joinParts 2 = .ok (.iload_n 1, 1) := by decide +kernel
theorem dc_Dr_joinParts_3 : decode cd_Dr_joinParts 3 = .ok (.aload_n 0, 1) := by decide +kernel
theorem dc_Dr_joinParts_4 : decode cd_Dr_joinParts 4 = .ok (.getfield 40, 3) := by decide +kernel
theorem dc_Dr_joinParts_7 : decode cd_Dr_joinParts 7 = .ok (.if_icmp .ge 16, 3) := by decide +kernel
theorem dc_Dr_joinParts_10 : decode cd_Dr_joinParts 10 = .ok (.aload_n 0, 1) := by decide +kernel
theorem dc_Dr_joinParts_11 : decode cd_Dr_joinParts 11 = .ok (.getfield 31, 3) := by decide +kernel
theorem dc_Dr_joinParts_14 : decode cd_Dr_joinParts 14 = .ok (.iload_n 1, 1) := by decide +kernel
theorem dc_Dr_joinParts_15 : decode cd_Dr_joinParts 15 = .ok (.iload_n 1, 1) := by decide +kernel
theorem dc_Dr_joinParts_16 : decode cd_Dr_joinParts 16 = .ok (.iastore, 1) := by decide +kernel
theorem dc_Dr_joinParts_17 : decode cd_Dr_joinParts 17 = .ok (.iinc 1 1, 3) := by decide +kernel
theorem dc_Dr_joinParts_20 : decode cd_Dr_joinParts 20 = .ok (.goto (-18), 3) := by decide +kernel
theorem dc_Dr_joinParts_23 : decode cd_Dr_joinParts 23 = .ok (.iconst 0, 1) := by decide +kernel
theorem dc_Dr_joinParts_24 : decode cd_Dr_joinParts 24 = .ok (.istore_n 1, 1) := by decide +kernel
theorem dc_Dr_joinParts_25 : decode cd_Dr_joinParts 25 = .ok (.iload_n 1, 1) := by decide +kernel
theorem dc_Dr_joinParts_26 : decode cd_Dr_joinParts 26 = .ok (.aload_n 0, 1) := by decide +kernel
theorem dc_Dr_joinParts_27 : decode cd_Dr_joinParts 27 = .ok (.getfield 40, 3) := by decide +kernel
theorem dc_Dr_joinParts_30 : decode cd_Dr_joinParts 30 = .ok (.if_icmp .ge 67, 3) := by decide +kernel
theorem dc_Dr_joinParts_33 : decode cd_Dr_joinParts 33 = .ok (.iload_n 1, 1) := by decide +kernel
theorem dc_Dr_joinParts_34 : decode cd_Dr_joinParts 34 = .ok (.iconst 1, 1) := by decide +kernel
theorem dc_Dr_joinParts_35 : decode cd_Dr_joinParts 35 = .ok (.iadd, 1) := by decide +kernel
theorem dc_Dr_joinParts_36 : decode cd_Dr_joinParts 36 = .ok (.istore_n 2, 1) := by decide +kernel
theorem dc_Dr_joinParts_37 : decode cd_Dr_joinParts 37 = .ok (.iload_n 2, 1) := by decide +kernel
theorem dc_Dr_joinParts_38 : decode cd_Dr_joinParts 38 = .ok (.aload_n 0, 1) := by decide +kernel
theorem dc_Dr_joinParts_39 : decode cd_Dr_joinParts 39 = .ok (.getfield 40, 3) := by decide +kernel
theorem dc_Dr_joinParts_42 : decode cd_Dr_joinParts 42 = .ok (.if_icmp .ge 49, 3) := by decide +kernel
theorem dc_Dr_joinParts_45 : decode cd_Dr_joinParts 45 = .ok (.aload_n 0, 1) := by decide +kernel
theorem dc_Dr_joinParts_46 : decode cd_Dr_joinParts 46 = .ok (.getfield 31, 3) := by decide +kernel
theorem dc_Dr_joinParts_49 : decode cd_Dr_joinParts 49 = .ok (.iload_n 1, 1) := by decide +kernel
theorem dc_Dr_joinParts_50 : decode cd_Dr_joinParts 50 = .ok (.iaload, 1) := by decide +kernel
theorem dc_Dr_joinParts_51 : decode cd_Dr_joinParts 51 = .ok (.aload_n 0, 1) := by decide +kernel
theorem dc_Dr_joinParts_52 : decode cd_Dr_joinParts 52 = .ok (.getfield 31, 3) := by decide +kernel
theorem dc_Dr_joinParts_55 : decode cd_Dr_joinParts 55 = .ok (.iload_n 2, 1) := by decide +kernel
theorem dc_Dr_joinParts_56 : decode cd_Dr_joinParts 56 = .ok (.iaload, 1) := by decide +kernel
theorem dc_Dr_joinParts_57 : decode cd_Dr_joinParts 57 = .ok (.if_icmp .eq 28, 3) := by decide +kernel
theorem dc_Dr_joinParts_60 : decode cd_Dr_joinParts 60 = .ok (.aload_n 0, 1) := by decide +kernel
theorem dc_Dr_joinParts_61 : decode cd_Dr_joinParts 61 = .ok (.iload_n 1, 1) := by decide +kernel
theorem dc_Dr_joinParts_62 : decode cd_Dr_joinParts 62 = .ok (.iload_n 2, 1) := by decide +kernel
theorem dc_Dr_joinParts_63 : decode cd_Dr_joinParts 63 = .ok (.invokevirtual 66, 3) := by decide +kernel
theorem dc_Dr_joinParts_66 : decode cd_Dr_joinParts 66 = .ok (.ifCond .eq 19, 3) := by decide +kernel
theorem dc_Dr_joinParts_69 : decode cd_Dr_joinParts 69 = .ok (.aload_n 0, 1) := by decide +kernel
theorem dc_Dr_joinParts_70 : decode cd_Dr_joinParts 70 = .ok (.aload_n 0, 1) := by decide +kernel
theorem dc_Dr_joinParts_71 : decode cd_Dr_joinParts 71 = .ok (.getfield 31, 3) := by decide +kernel
theorem dc_Dr_joinParts_74 : decode cd_Dr_joinParts 74 = .ok (.iload_n 1, 1) := by decide +kernel
theorem dc_Dr_joinParts_75 : decode cd_Dr_joinParts 75 = .ok (.iaload, 1) := by decide +kernel
theorem dc_Dr_joinParts_76 : decode cd_Dr_joinParts 76 = .ok (.aload_n 0, 1) := by decide +kernel
theorem dc_Dr_joinParts_77 : decode cd_Dr_joinParts 77 = .ok (.getfield 31, 3) := by decide +kernel
theorem dc_Dr_joinParts_80 : decode cd_Dr_joinParts 80 = .ok (.iload_n 2, 1) := by decide +kernel
theorem dc_Dr_joinParts_81 : decode cd_Dr_joinParts 81 = .ok (.iaload, 1) := by decide +kernel
theorem dc_Dr_joinParts_82 : decode cd_Dr_joinParts 82 = .ok (.invokevirtual 70, 3) := by decide +kernel
theorem dc_Dr_joinParts_85 : decode cd_Dr_joinParts 85 = .ok (.iinc 2 1, 3) := by decide +kernel
theorem dc_Dr_joinParts_88 : decode cd_Dr_joinParts 88 = .ok (.goto (-51), 3) := by decide +kernel
theorem dc_Dr_joinParts_91 : decode cd_Dr_joinParts 91 = .ok (.iinc 1 1, 3) := by decide +kernel
theorem dc_Dr_joinParts_94 : decode cd_Dr_joinParts 94 = .ok (.goto (-69), 3) := by decide +kernel
theorem dc_Dr_joinParts_97 : decode cd_Dr_joinParts 97 = .ok (.return_, 1) := by decide +kernel
theorem dc_Dr_isCrossing_0 : decode cd_Dr_isCrossing 0 = .ok (.aload_n 0, 1) := by decide +kernel
theorem dc_Dr_isCrossing_1 : decode cd_Dr_isCrossing 1 = .ok (.aload_n 0, 1) := by decide +kernel
theorem dc_Dr_isCrossing_2 : decode cd_Dr_isCrossing 2 = .ok (.getfield 11, 3) := by decide +kernel
theorem dc_Dr_isCrossing_5 : decode cd_Dr_isCrossing 5 = .ok (.iload_n 2, 1) := by decide +kernel
theorem dc_Dr_isCrossing_6 : decode cd_Dr_isCrossing 6 = .ok (.iaload, 1) := by decide +kernel
theorem dc_Dr_isCrossing_7 : decode cd_Dr_isCrossing 7 = .ok (.iload_n 1, 1) := by decide +kernel
theorem dc_Dr_isCrossing_8 : decode cd_Dr_isCrossing 8 = .ok (.invokevirtual 73, 3) := by decide +kernel
theorem dc_Dr_isCrossing_11 : decode cd_Dr_isCrossing 11 = .ok (.aload_n 0, 1) := by decide +kernel
theorem dc_Dr_isCrossing_12 : decode cd_Dr_isCrossing 12 = .ok (.aload_n 0, 1) := by decide +kernel
theorem dc_Dr_isCrossing_13 : decode cd_Dr_isCrossing 13 = .ok (.getfield 15, 3) := by decide +kernel
theorem dc_Dr_isCrossing_16 : decode cd_Dr_isCrossing 16 = .ok (.iload_n 2, 1) := by decide +kernel
theorem dc_Dr_isCrossing_17 : decode cd_Dr_isCrossing 17 = .ok (.iaload, 1) := by decide +kernel
theorem dc_Dr_isCrossing_18 : decode cd_Dr_isCrossing 18 = .ok (.iload_n 1, 1) := by decide +kernel
theorem dc_Dr_isCrossing_19 : decode cd_Dr_isCrossing 19 = .ok (.invokevirtual 73, 3) := by decide +kernel
theorem dc_Dr_isCrossing_22 : decode cd_Dr_isCrossing 22 = .ok (.if_icmp .eq 7, 3) := by decide +kernel
theorem dc_Dr_isCrossing_25 : decode cd_Dr_isCrossing 25 = .ok (.iconst 1, 1) := by decide +kernel
theorem dc_Dr_isCrossing_26 : decode cd_Dr_isCrossing 26 = .ok (.goto 4, 3) := by decide +kernel
theorem dc_Dr_isCrossing_29 : decode cd_Dr_isCrossing 29 = .ok (.iconst 0, 1) := by decide +kernel
theorem dc_Dr_isCrossing_30 : decode cd_Dr_isCrossing 30 = .ok (.ireturn, 1) := by decide +kernel
theorem dc_Dr_isWithin_0 : decode cd_Dr_isWithin 0 = .ok (.aload_n 0, 1) := by decide +kernel
theorem dc_Dr_isWithin_1 : decode cd_Dr_isWithin 1 = .ok (.getfield 11, 3) := by decide +kernel
theorem dc_Dr_isWithin_4 : decode cd_Dr_isWithin 4 = .ok (.iload_n 2, 1) := by decide +kernel
theorem dc_Dr_isWithin_5 : decode cd_Dr_isWithin 5 = .ok (.iaload, 1) := by decide +kernel
theorem dc_Dr_isWithin_6 : decode cd_Dr_isWithin 6 = .ok (.iload_n 1, 1) := by decide +kernel
theorem dc_Dr_isWithin_7 : decode cd_Dr_isWithin 7 = .ok (.if_icmp .ge 17, 3) := by decide +kernel
theorem dc_Dr_isWithin_10 : decode cd_Dr_isWithin 10 = .ok (.iload_n 1, 1) := by decide +kernel
theorem dc_Dr_isWithin_11 : decode cd_Dr_isWithin 11 = .ok (.aload_n 0, 1) := by decide +kernel
theorem dc_Dr_isWithin_12 : decode cd_Dr_isWithin 12 = .ok (.getfield 15, 3) := by decide +kernel
theorem dc_Dr_isWithin_15 : decode cd_Dr_isWithin 15 = .ok (.iload_n 2, 1) := by decide +kernel
theorem dc_Dr_isWithin_16 : decode cd_Dr_isWithin 16 = .ok (.iaload, 1) := by decide +kernel
theorem dc_Dr_isWithin_17 : decode cd_Dr_isWithin 17 = .ok (.if_icmp .ge 7, 3) := by decide +kernel
theorem dc_Dr_isWithin_20 : decode cd_Dr_isWithin 20 = .ok (.iconst 1, 1) := by decide +kernel
theorem dc_Dr_isWithin_21 : decode cd_Dr_isWithin 21 = .ok (.goto 4, 3) := by decide +kernel
theorem dc_Dr_isWithin_24 : decode cd_Dr_isWithin 24 = .ok (.iconst 0, 1) := by decide +kernel
theorem dc_Dr_isWithin_25 : decode cd_Dr_isWithin 25 = .ok (.ireturn, 1) := by decide +kernel
theorem dc_Dr_unite_0 : decode cd_Dr_unite 0 = .ok (.iload_n 1, 1) := by decide +kernel
theorem dc_Dr_unite_1 : decode cd_Dr_unite 1 = .ok (.iload_n 2, 1) := by decide +kernel
theorem dc_Dr_unite_2 : decode cd_Dr_unite 2 = .ok (.invokestatic 51, 3) := by decide +kernel
theorem dc_Dr_unite_5 : decode cd_Dr_unite 5 = .ok (.istore_n 3, 1) := by decide +kernel
theorem dc_Dr_unite_6 : decode cd_Dr_unite 6 = .ok (.iload_n 1, 1) := by decide +kernel
theorem dc_Dr_unite_7 : decode cd_Dr_unite 7 = .ok (.iload_n 2, 1) := by decide +kernel
theorem dc_Dr_unite_8 : decode cd_Dr_unite 8 = .ok (.invokestatic 57, 3) := by decide +kernel
theorem dc_Dr_unite_11 : decode cd_Dr_unite 11 = .ok (.istore 4, 2) := by decide +kernel
theorem dc_Dr_unite_13 : decode cd_Dr_unite 13 = .ok (.iconst 0, 1) := by decide +kernel
theorem dc_Dr_unite_14 : decode cd_Dr_unite 14 = .ok (.istore 5, 2) := by decide +kernel
theorem dc_Dr_unite_16 : decode cd_Dr_unite 16 = .ok (.iload 5, 2) := by decide +kernel
theorem dc_Dr_unite_18 : decode cd_Dr_unite 18 = .ok (.aload_n 0, 1) := by decide +kernel
theorem dc_Dr_unite_19 : decode cd_Dr_unite 19 = .ok (.getfield 40, 3) := by decide +kernel
theorem dc_Dr_unite_22 : decode cd_Dr_unite 22 = .ok (.if_icmp .ge 29, 3) := by decide +kernel
theorem dc_Dr_unite_25 : decode cd_Dr_unite 25 = .ok (.aload_n 0, 1) := by decide +kernel
theorem dc_Dr_unite_26 : decode cd_Dr_unite 26 = .ok (.getfield 31, 3) := by decide +kernel
theorem dc_Dr_unite_29 : decode cd_Dr_unite 29 = .ok (.iload 5, 2) := by decide +kernel
theorem dc_Dr_unite_31 : decode cd_Dr_unite 31 = .ok (.iaload, 1) := by decide +kernel
theorem dc_Dr_unite_32 : decode cd_Dr_unite 32 = .ok (.iload 4, 2) := by decide +kernel
theorem dc_Dr_unite_34 : decode cd_Dr_unite 34 = .ok (.if_icmp .ne 11, 3) := by decide +kernel
theorem dc_Dr_unite_37 : decode cd_Dr_unite 37 = .ok (.aload_n 0, 1) := by decide +kernel
theorem dc_Dr_unite_38 : decode cd_Dr_unite 38 = .ok (.getfield 31, 3) := by decide +kernel
theorem dc_Dr_unite_41 : decode cd_Dr_unite 41 = .ok (.iload 5, 2) := by decide +kernel
theorem dc_Dr_unite_43 : decode cd_Dr_unite 43 = .ok (.iload_n 3, 1) := by decide +kernel
theorem dc_Dr_unite_44 : decode cd_Dr_unite 44 = .ok (.iastore, 1) := by decide +kernel
theorem dc_Dr_unite_45 : decode cd_Dr_unite 45 = .ok (.iinc 5 1, 3) := by decide +kernel
theorem dc_Dr_unite_48 : decode cd_Dr_unite 48 = .ok (.goto (-32), 3) := by decide +kernel
theorem dc_Dr_unite_51 : decode cd_Dr_unite 51 = .ok (.return_, 1) := by decide +kernel
theorem dc_Dr_isOriented_0 : decode cd_Dr_isOriented 0 = .ok (.aload_n 0, 1) := by decide +kernel
theorem dc_Dr_isOriented_1 : decode cd_Dr_isOriented 1 = .ok (.getfield 11, 3) := by decide +kernel
theorem dc_Dr_isOriented_4 : decode cd_Dr_isOriented 4 = .ok (.iload_n 1, 1) := by decide +kernel
theorem dc_Dr_isOriented_5 : decode cd_Dr_isOriented 5 = .ok (.iaload, 1) := by decide +kernel
theorem dc_Dr_isOriented_6 : decode cd_Dr_isOriented 6 = .ok (.aload_n 0, 1) := by decide +kernel
theorem dc_Dr_isOriented_7 : decode cd_Dr_isOriented 7 = .ok (.getfield 15, 3) := by decide +kernel
theorem dc_Dr_isOriented_10 : decode cd_Dr_isOriented 10 = .ok (.iload_n 1, 1) := by decide +kernel
theorem dc_Dr_isOriented_11 : decode cd_Dr_isOriented 11 = .ok (.iaload, 1) := by decide +kernel
theorem dc_Dr_isOriented_12 : decode cd_Dr_isOriented 12 = .ok (.iadd, 1) := by decide +kernel
theorem dc_Dr_isOriented_13 : decode cd_Dr_isOriented 13 = .ok (.iconst 2, 1) := by decide +kernel
theorem dc_Dr_isOriented_14 : decode cd_Dr_isOriented 14 = .ok (.irem, 1) := by decide +kernel
theorem dc_Dr_isOriented_15 : decode cd_Dr_isOriented 15 = .ok (.ifCond .ne 7, 3) := by decide +kernel
theorem dc_Dr_isOriented_18 : decode cd_Dr_isOriented 18 = .ok (.iconst 1, 1) := by decide +kernel
theorem dc_Dr_isOriented_19 : decode cd_Dr_isOriented 19 = .ok (.goto 4, 3) := by decide +kernel
theorem dc_Dr_isOriented_22 : decode cd_Dr_isOriented 22 = .ok (.iconst 0, 1) := by decide +kernel
theorem dc_Dr_isOriented_23 : decode cd_Dr_isOriented 23 = .ok (.ireturn, 1) := by decide +kernel
theorem dc_Dr_isShort_0 : decode cd_Dr_isShort 0 = .ok (.aload_n 0, 1) := by decide +kernel
theorem dc_Dr_isShort_1 : decode cd_Dr_isShort 1 = .ok (.getfield 15, 3) := by decide +kernel
theorem dc_Dr_isShort_4 : decode cd_Dr_isShort 4 = .ok (.iload_n 1, 1) := by decide +kernel
theorem dc_Dr_isShort_5 : decode cd_Dr_isShort 5 = .ok (.iaload, 1) := by decide +kernel
theorem dc_Dr_isShort_6 : decode cd_Dr_isShort 6 = .ok (.aload_n 0, 1) := by decide +kernel
theorem dc_Dr_isShort_7 : decode cd_Dr_isShort 7 = .ok (.getfield 11, 3) := by decide +kernel
theorem dc_Dr_isShort_10 : decode cd_Dr_isShort 10 = .ok (.iload_n 1, 1) := by decide +kernel
theorem dc_Dr_isShort_11 : decode cd_Dr_isShort 11 = .ok (.iaload, 1) := by decide +kernel
theorem dc_Dr_isShort_12 : decode cd_Dr_isShort 12 = .ok (.iconst 1, 1) := by decide +kernel
theorem dc_Dr_isShort_13 : decode cd_Dr_isShort 13 = .ok (.iadd, 1) := by decide +kernel
theorem dc_Dr_isShort_14 : decode cd_Dr_isShort 14 = .ok (.if_icmp .ne 18, 3) := by decide +kernel
theorem dc_Dr_isShort_17 : decode cd_Dr_isShort 17 = .ok (.aload_n 0, 1) := by decide +kernel
theorem dc_Dr_isShort_18 : decode cd_Dr_isShort 18 = .ok (.getfield 11, 3) := by decide +kernel
theorem dc_Dr_isShort_21 : decode cd_Dr_isShort 21 = .ok (.iload_n 1, 1) := by decide +kernel
theorem dc_Dr_isShort_22 : decode cd_Dr_isShort 22 = .ok (.iaload, 1) := by decide +kernel
theorem dc_Dr_isShort_23 : decode cd_Dr_isShort 23 = .ok (.iconst 2, 1) := by decide +kernel
theorem dc_Dr_isShort_24 : decode cd_Dr_isShort 24 = .ok (.irem, 1) := by decide +kernel
theorem dc_Dr_isShort_25 : decode cd_Dr_isShort 25 = .ok (.ifCond .ne 7, 3) := by decide +kernel
theorem dc_Dr_isShort_28 : decode cd_Dr_isShort 28 = .ok (.iconst 1, 1) := by decide +kernel
theorem dc_Dr_isShort_29 : decode cd_Dr_isShort 29 = .ok (.goto 4, 3) := by decide +kernel
theorem dc_Dr_isShort_32 : decode cd_Dr_isShort 32 = .ok (.iconst 0, 1) := by decide +kernel
theorem dc_Dr_isShort_33 : decode cd_Dr_isShort 33 = .ok (.ireturn, 1) := by decide +kernel
theorem dc_Dr_markBadParts_0 : decode cd_Dr_markBadParts 0 = .ok (.iconst 0, 1) := by decide +kernel
theorem dc_Dr_markBadParts_1 : decode cd_Dr_markBadParts 1 = .ok (.istore_n 1, 1) := by decide +kernel
theorem dc_Dr_markBadParts_2 : decode cd_Dr_markBadParts 2 = .ok (.iload_n 1, 1) := by decide +kernel
theorem dc_Dr_markBadParts_3 : decode cd_Dr_markBadParts 3 = .ok (.aload_n 0, 1) := by decide +kernel
theorem dc_Dr_markBadParts_4 : decode cd_Dr_markBadParts 4 = .ok (.getfield 40, 3) := by decide +kernel
theorem dc_Dr_markBadParts_7 : decode cd_Dr_markBadParts 7 = .ok (.if_icmp .ge 38, 3) := by decide +kernel
theorem dc_Dr_markBadParts_10 : decode cd_Dr_markBadParts 10 = .ok (.aload_n 0, 1) := by decide +kernel
theorem dc_Dr_markBadParts_11 : decode cd_Dr_markBadParts 11 = .ok (.getfield 34, 3) := by decide +kernel
theorem dc_Dr_markBadParts_14 : decode cd_Dr_markBadParts 14 = .ok (.iload_n 1, 1) := by decide +kernel
theorem dc_Dr_markBadParts_15 : decode cd_Dr_markBadParts 15 = .ok (.aload_n 0, 1) := by decide +kernel
theorem dc_Dr_markBadParts_16 : decode cd_Dr_markBadParts 16 = .ok (.getfield 31, 3) := by decide +kernel
theorem dc_Dr_markBadParts_19 : decode cd_Dr_markBadParts 19 = .ok (.iload_n 1, 1) := by decide +kernel
theorem dc_Dr_markBadParts_20 : decode cd_Dr_markBadParts 20 = .ok (.iaload, 1) := by decide +kernel
theorem dc_Dr_markBadParts_21 : decode cd_Dr_markBadParts 21 = .ok (.iload_n 1, 1) := by decide +kernel
theorem dc_Dr_markBadParts_22 : decode cd_Dr_markBadParts 22 = .ok (.if_icmp .ne 15, 3) := by decide +kernel
theorem dc_Dr_markBadParts_25 : decode cd_Dr_markBadParts 25 = .ok (.aload_n 0, 1) := by decide +kernel
theorem dc_Dr_markBadParts_26 : decode cd_Dr_markBadParts 26 = .ok (.iload_n 1, 1) := by decide +kernel
theorem dc_Dr_markBadParts_27 : decode cd_Dr_markBadParts 27 = .ok (.invokevirtual 76, 3) := by decide +kernel
theorem dc_Dr_markBadParts_30 : decode cd_Dr_markBadParts 30 = .ok (.ifCond .ne 7, 3) := by decide +kernel
theorem dc_Dr_markBadParts_33 : decode cd_Dr_markBadParts 33 = .ok (.iconst 1, 1) := by decide +kernel
theorem dc_Dr_markBadParts_34 : decode cd_Dr_markBadParts 34 = .ok (.goto 4, 3) := by decide +kernel
theorem dc_Dr_markBadParts_37 : decode cd_Dr_markBadParts 37 = .ok (.iconst 0, 1) := by decide +kernel
theorem dc_Dr_markBadParts_38 : decode cd_Dr_markBadParts 38 = .ok (.bastore, 1) := by decide +kernel
theorem dc_Dr_markBadParts_39 : decode cd_Dr_markBadParts 39 = .ok (.iinc 1 1, 3) := by decide +kernel
theorem dc_Dr_markBadParts_42 : decode cd_Dr_markBadParts 42 = .ok (.goto (-40), 3) := by decide +kernel
theorem dc_Dr_markBadParts_45 : decode cd_Dr_markBadParts 45 = .ok (.iconst 0, 1) := by decide +kernel
theorem dc_Dr_markBadParts_46 : decode cd_Dr_markBadParts 46 = .ok (.istore_n 1, 1) := by decide +kernel
theorem dc_Dr_markBadParts_47 : decode cd_Dr_markBadParts 47 = .ok (.iload_n 1, 1) := by decide +kernel
theorem dc_Dr_markBadParts_48 : decode cd_Dr_markBadParts 48 = .ok (.aload_n 0, 1) := by decide +kernel
theorem dc_Dr_markBadParts_49 : decode cd_Dr_markBadParts 49 = .ok (.getfield 40, 3) := by decide +kernel
theorem dc_Dr_markBadParts_52 : decode cd_Dr_markBadParts 52 = .ok (.if_icmp .ge 29, 3) := by decide +kernel
theorem dc_Dr_markBadParts_55 : decode cd_Dr_markBadParts 55 = .ok (.aload_n 0, 1) := by decide +kernel
theorem dc_Dr_markBadParts_56 : decode cd_Dr_markBadParts 56 = .ok (.iload_n 1, 1) := by decide +kernel
theorem dc_Dr_markBadParts_57 : decode cd_Dr_markBadParts 57 = .ok (.invokevirtual 80, 3) := by decide +kernel
theorem dc_Dr_markBadParts_60 : decode cd_Dr_markBadParts 60 = .ok (.ifCond .eq 15, 3) := by decide +kernel
theorem dc_Dr_markBadParts_63 : decode cd_Dr_markBadParts 63 = .ok (.aload_n 0, 1) := by decide +kernel
theorem dc_Dr_markBadParts_64 : decode cd_Dr_markBadParts 64 = .ok (.getfield 34, 3) := by decide +kernel
theorem dc_Dr_markBadParts_67 : decode cd_Dr_markBadParts 67 = .ok (.aload_n 0, 1) := by decide +kernel
theorem dc_Dr_markBadParts_68 : decode cd_Dr_markBadParts 68 = .ok (.getfield 31, 3) := by decide +kernel
theorem dc_Dr_markBadParts_71 : decode cd_Dr_markBadParts 71 = .ok (.iload_n 1, 1) := by decide +kernel
theorem dc_Dr_markBadParts_72 : decode cd_Dr_markBadParts 72 = .ok (.iaload, 1) := by decide +kernel
theorem dc_Dr_markBadParts_73 : decode cd_Dr_markBadParts 73 = .ok (.iconst 0, 1) := by decide +kernel
theorem dc_Dr_markBadParts_74 : decode cd_Dr_markBadParts 74 = .ok (.bastore, 1) := by decide +kernel
theorem dc_Dr_markBadParts_75 : decode cd_Dr_markBadParts 75 = .ok (.iinc 1 1, 3) := by decide +kernel
theorem dc_Dr_markBadParts_78 : decode cd_Dr_markBadParts 78 = .ok (.goto (-31), 3) := by decide +kernel
theorem dc_Dr_markBadParts_81 : decode cd_Dr_markBadParts 81 = .ok (.return_, 1) := by decide +kernel
theorem dc_Dr_countCycles_0 : decode cd_Dr_countCycles 0 = .ok (.iconst 0, 1) := by decide +kernel
theorem dc_Dr_countCycles_1 : decode cd_Dr_countCycles 1 = .ok (.istore_n 1, 1) := by decide +kernel
theorem dc_Dr_countCycles_2 : decode cd_Dr_countCycles 2 = .ok (.iload_n 1, 1) := by decide +kernel
theorem dc_Dr_countCycles_3 : decode cd_Dr_countCycles 3 = .ok (.aload_n 0, 1) := by decide +kernel
theorem dc_Dr_countCycles_4 : decode cd_Dr_countCycles 4 = .ok (.getfield 44, 3) := by decide +kernel
theorem dc_Dr_countCycles_7 : decode cd_Dr_countCycles 7 = .ok (.if_icmp .ge 16, 3) := by decide +kernel
theorem dc_Dr_countCycles_10 : decode cd_Dr_countCycles 10 = .ok (.aload_n 0, 1) := by decide +kernel
theorem dc_Dr_countCycles_11 : decode cd_Dr_countCycles 11 = .ok (.getfield 27, 3) := by decide +kernel
theorem dc_Dr_countCycles_14 : decode cd_Dr_countCycles 14 = .ok (.iload_n 1, 1) := by decide +kernel
theorem dc_Dr_countCycles_15 : decode cd_Dr_countCycles 15 = .ok (.iconst 0, 1) := by decide +kernel
theorem dc_Dr_countCycles_16 : decode cd_Dr_countCycles 16 = .ok (.bastore, 1) := by decide +kernel
theorem dc_Dr_countCycles_17 : decode cd_Dr_countCycles 17 = .ok (.iinc 1 1, 3) := by decide +kernel
theorem dc_Dr_countCycles_20 : decode cd_Dr_countCycles 20 = .ok (.goto (-18), 3) := by decide +kernel
theorem dc_Dr_countCycles_23 : decode cd_Dr_countCycles 23 = .ok (.iconst 0, 1) := by decide +kernel
theorem dc_Dr_countCycles_24 : decode cd_Dr_countCycles 24 = .ok (.istore_n 1, 1) := by decide +kernel
theorem dc_Dr_countCycles_25 : decode cd_Dr_countCycles 25 = .ok (.iconst 0, 1) := by decide +kernel
theorem dc_Dr_countCycles_26 : decode cd_Dr_countCycles 26 = .ok (.istore_n 2, 1) := by decide +kernel
theorem dc_Dr_countCycles_27 : decode cd_Dr_countCycles 27 = .ok (.iload_n 2, 1) := by decide +kernel
theorem dc_Dr_countCycles_28 : decode cd_Dr_countCycles 28 = .ok (.aload_n 0, 1) := by decide +kernel
theorem dc_Dr_countCycles_29 : decode cd_Dr_countCycles 29 = .ok (.getfield 44, 3) := by decide +kernel
theorem dc_Dr_countCycles_32 : decode cd_Dr_countCycles 32 = .ok (.if_icmp .ge 26, 3) := by decide +kernel
theorem dc_Dr_countCycles_35 : decode cd_Dr_countCycles 35 = .ok (.aload_n 0, 1) := by decide +kernel
theorem dc_Dr_countCycles_36 : decode cd_Dr_countCycles 36 = .ok (.getfield 27, 3) := by decide +kernel
theorem dc_Dr_countCycles_39 : decode cd_Dr_countCycles 39 = .ok (.iload_n 2, 1) := by decide +kernel
theorem dc_Dr_countCycles_40 : decode cd_Dr_countCycles 40 = .ok (.baload, 1) := by decide +kernel
theorem dc_Dr_countCycles_41 : decode cd_Dr_countCycles 41 = .ok (.ifCond .ne 11, 3) := by decide +kernel
theorem dc_Dr_countCycles_44 : decode cd_Dr_countCycles 44 = .ok (.aload_n 0, 1) := by decide +kernel
theorem dc_Dr_countCycles_45 : decode cd_Dr_countCycles 45 = .ok (.iload_n 2, 1) := by decide +kernel
theorem dc_Dr_countCycles_46 : decode cd_Dr_countCycles 46 = .ok (.invokevirtual 83, 3) := by decide +kernel
theorem dc_Dr_countCycles_49 : decode cd_Dr_countCycles 49 = .ok (.iinc 1 1, 3) := by decide +kernel
theorem dc_Dr_countCycles_52 : decode cd_Dr_countCycles 52 = .ok (.iinc 2 1, 3) := by decide +kernel
theorem dc_Dr_countCycles_55 : decode cd_Dr_countCycles 55 = .ok (.goto (-28), 3) := by decide +kernel
theorem dc_Dr_countCycles_58 : decode cd_Dr_countCycles 58 = .ok (.iload_n 1, 1) := by decide +kernel
theorem dc_Dr_countCycles_59 : decode cd_Dr_countCycles 59 = .ok (.ireturn, 1) := by decide +kernel
