theorem dc_Dr_walkCycle_0 : decode cd_Dr_walkCycle 0 = .ok (.iload_n 1, 1) := by decide +kernel
theorem dc_Dr_walkCycle_1 : decode cd_Dr_walkCycle 1 = .ok (.istore_n 2, 1) := by decide +kernel
theorem dc_Dr_walkCycle_2 : decode cd_Dr_walkCycle 2 = .ok (.iconst 0, 1) := by decide +kernel
theorem dc_Dr_walkCycle_3 : decode cd_Dr_walkCycle 3 = .ok (.istore_n 3, 1) := by decide +kernel
theorem dc_Dr_walkCycle_4 : decode cd_Dr_walkCycle 4 = .ok (.iload_n 3, 1) := by decide +kernel
theorem dc_Dr_walkCycle_5 : decode cd_Dr_walkCycle 5 = .ok (.aload_n 0, 1) := by decide +kernel
theorem dc_Dr_walkCycle_6 : decode cd_Dr_walkCycle 6 = .ok (.getfield 40, 3) := by decide +kernel
theorem dc_Dr_walkCycle_9 : decode cd_Dr_walkCycle 9 = .ok (.if_icmp .ge 53, 3) := by decide +kernel
theorem dc_Dr_walkCycle_12 : decode cd_Dr_walkCycle 12 = .ok (.aload_n 0, 1) := by decide +kernel
theorem dc_Dr_walkCycle_13 : decode cd_Dr_walkCycle 13 = .ok (.getfield 27, 3) := by decide +kernel
theorem dc_Dr_walkCycle_16 : decode cd_Dr_walkCycle 16 = .ok (.iload_n 2, 1) := by decide +kernel
theorem dc_Dr_walkCycle_17 : decode cd_Dr_walkCycle 17 = .ok (.baload, 1) := by decide +kernel
theorem dc_Dr_walkCycle_18 : decode cd_Dr_walkCycle 18 = .ok (.ifCond .ne 44, 3) := by decide +kernel
theorem dc_Dr_walkCycle_21 : decode cd_Dr_walkCycle 21 = .ok (.iload_n 2, 1) := by decide +kernel
theorem dc_Dr_walkCycle_22 : decode cd_Dr_walkCycle 22 = .ok (.iconst 1, 1) := by decide +kernel
theorem dc_Dr_walkCycle_23 : decode cd_Dr_walkCycle 23 = .ok (.ixor, 1) := by decide +kernel
theorem dc_Dr_walkCycle_24 : decode cd_Dr_walkCycle 24 = .ok (.istore 4, 2) := by decide +kernel
theorem dc_Dr_walkCycle_26 : decode cd_Dr_walkCycle 26 = .ok (.aload_n 0, 1) := by decide +kernel
theorem dc_Dr_walkCycle_27 : decode cd_Dr_walkCycle 27 = .ok (.getfield 27, 3) := by decide +kernel
theorem dc_Dr_walkCycle_30 : decode cd_Dr_walkCycle 30 = .ok (.iload_n 2, 1) := by decide +kernel
theorem dc_Dr_walkCycle_31 : decode cd_Dr_walkCycle 31 = .ok (.iconst 1, 1) := by decide +kernel
theorem dc_Dr_walkCycle_32 : decode cd_Dr_walkCycle 32 = .ok (.bastore, 1) := by decide +kernel
theorem dc_Dr_walkCycle_33 : decode cd_Dr_walkCycle 33 = .ok (.aload_n 0, 1) := by decide +kernel
theorem dc_Dr_walkCycle_34 : decode cd_Dr_walkCycle 34 = .ok (.getfield 27, 3) := by decide +kernel
theorem dc_Dr_walkCycle_37 : decode cd_Dr_walkCycle 37 = .ok (.iload 4, 2) := by decide +kernel
theorem dc_Dr_walkCycle_39 : decode cd_Dr_walkCycle 39 = .ok (.iconst 1, 1) := by decide +kernel
theorem dc_Dr_walkCycle_40 : decode cd_Dr_walkCycle 40 = .ok (.bastore, 1) := by decide +kernel
theorem dc_Dr_walkCycle_41 : decode cd_Dr_walkCycle 41 = .ok (.aload_n 0, 1) := by decide +kernel
theorem dc_Dr_walkCycle_42 : decode cd_Dr_walkCycle 42 = .ok (.getfield 24, 3) := by decide +kernel
theorem dc_Dr_walkCycle_45 : decode cd_Dr_walkCycle 45 = .ok (.aload_n 0, 1) := by decide +kernel
theorem dc_Dr_walkCycle_46 : decode cd_Dr_walkCycle 46 = .ok (.getfield 21, 3) := by decide +kernel
theorem dc_Dr_walkCycle_49 : decode cd_Dr_walkCycle 49 = .ok (.iload 4, 2) := by decide +kernel
theorem dc_Dr_walkCycle_51 : decode cd_Dr_walkCycle 51 = .ok (.iaload, 1) := by decide +kernel
theorem dc_Dr_walkCycle_52 : decode cd_Dr_walkCycle 52 = .ok (.iconst 1, 1) := by decide +kernel
theorem dc_Dr_walkCycle_53 : decode cd_Dr_walkCycle 53 = .ok (.ixor, 1) := by decide +kernel
theorem dc_Dr_walkCycle_54 : decode cd_Dr_walkCycle 54 = .ok (.iaload, 1) := by decide +kernel
theorem dc_Dr_walkCycle_55 : decode cd_Dr_walkCycle 55 = .ok (.istore_n 2, 1) := by decide +kernel
theorem dc_Dr_walkCycle_56 : decode cd_Dr_walkCycle 56 = .ok (.iinc 3 1, 3) := by decide +kernel
theorem dc_Dr_walkCycle_59 : decode cd_Dr_walkCycle 59 = .ok (.goto (-55), 3) := by decide +kernel
theorem dc_Dr_walkCycle_62 : decode cd_Dr_walkCycle 62 = .ok (.return_, 1) := by decide +kernel
theorem dc_Dr_countParts_0 : decode cd_Dr_countParts 0 = .ok (.iconst 0, 1) := by decide +kernel
theorem dc_Dr_countParts_1 : decode cd_Dr_countParts 1 = .ok (.istore_n 1, 1) := by decide +kernel
theorem dc_Dr_countParts_2 : decode cd_Dr_countParts 2 = .ok (.iconst 0, 1) := by decide +kernel
theorem dc_Dr_countParts_3 : decode cd_Dr_countParts 3 = .ok (.istore_n 2, 1) := by decide +kernel
theorem dc_Dr_countParts_4 : decode cd_Dr_countParts 4 = .ok (.iload_n 2, 1) := by decide +kernel
theorem dc_Dr_countParts_5 : decode cd_Dr_countParts 5 = .ok (.aload_n 0, 1) := by decide +kernel
theorem dc_Dr_countParts_6 : decode cd_Dr_countParts 6 = .ok (.getfield 40, 3) := by decide +kernel
theorem dc_Dr_countParts_9 : decode cd_Dr_countParts 9 = .ok (.if_icmp .ge 22, 3) := by decide +kernel
theorem dc_Dr_countParts_12 : decode cd_Dr_countParts 12 = .ok (.aload_n 0, 1) := by decide +kernel
theorem dc_Dr_countParts_13 : decode cd_Dr_countParts 13 = .ok (.getfield 31, 3) := by decide +kernel
theorem dc_Dr_countParts_16 : decode cd_Dr_countParts 16 = .ok (.iload_n 2, 1) := by decide +kernel
theorem dc_Dr_countParts_17 : decode cd_Dr_countParts 17 = .ok (.iaload, 1) := by decide +kernel
theorem dc_Dr_countParts_18 : decode cd_Dr_countParts 18 = .ok (.iload_n 2, 1) := by decide +kernel
theorem dc_Dr_countParts_19 : decode cd_Dr_countParts 19 = .ok (.if_icmp .ne 6, 3) := by decide +kernel
theorem dc_Dr_countParts_22 : decode cd_Dr_countParts 22 = .ok (.iinc 1 1, 3) := by decide +kernel
theorem dc_Dr_countParts_25 : decode cd_Dr_countParts 25 = .ok (.iinc 2 1, 3) := by decide +kernel
theorem dc_Dr_countParts_28 : decode cd_Dr_countParts 28 = .ok (.goto (-24), 3) := by decide +kernel
theorem dc_Dr_countParts_31 : decode cd_Dr_countParts 31 = .ok (.iload_n 1, 1) := by decide +kernel
theorem dc_Dr_countParts_32 : decode cd_Dr_countParts 32 = .ok (.ireturn, 1) := by decide +kernel
theorem dc_Dr_countBadParts_0 : decode cd_Dr_countBadParts 0 = .ok (.iconst 0, 1) := by decide +kernel
theorem dc_Dr_countBadParts_1 : decode cd_Dr_countBadParts 1 = .ok (.istore_n 1, 1) := by decide +kernel
theorem dc_Dr_countBadParts_2 : decode cd_Dr_countBadParts 2 = .ok (.iconst 0, 1) := by decide +kernel
theorem dc_Dr_countBadParts_3 : decode cd_Dr_countBadParts 3 = .ok (.istore_n 2, 1) := by decide +kernel
theorem dc_Dr_countBadParts_4 : decode cd_Dr_countBadParts 4 = .ok (.iload_n 2, 1) := by decide +kernel
theorem dc_Dr_countBadParts_5 : decode cd_Dr_countBadParts 5 = .ok (.aload_n 0, 1) := by decide +kernel
theorem dc_Dr_countBadParts_6 : decode cd_Dr_countBadParts 6 = .ok (.getfield 40, 3) := by decide +kernel
theorem dc_Dr_countBadParts_9 : decode cd_Dr_countBadParts 9 = .ok (.if_icmp .ge 21, 3) := by decide +kernel
theorem dc_Dr_countBadParts_12 : decode cd_Dr_countBadParts 12 = .ok (.aload_n 0, 1) := by decide +kernel
theorem dc_Dr_countBadParts_13 : decode cd_Dr_countBadParts 13 = .ok (.getfield 34, 3) := by decide +kernel
theorem dc_Dr_countBadParts_16 : decode cd_Dr_countBadParts 16 = .ok (.iload_n 2, 1) := by decide +kernel
theorem dc_Dr_countBadParts_17 : decode cd_Dr_countBadParts 17 = .ok (.baload, 1) := by decide +kernel
theorem dc_Dr_countBadParts_18 : decode cd_Dr_countBadParts 18 = .ok (.ifCond .eq 6, 3) := by decide +kernel
theorem dc_Dr_countBadParts_21 : decode cd_Dr_countBadParts 21 = .ok (.iinc 1 1, 3) := by decide +kernel
theorem dc_Dr_countBadParts_24 : decode cd_Dr_countBadParts 24 = .ok (.iinc 2 1, 3) := by decide +kernel
theorem dc_Dr_countBadParts_27 : decode cd_Dr_countBadParts 27 = .ok (.goto (-23), 3) := by decide +kernel
theorem dc_Dr_countBadParts_30 : decode cd_Dr_countBadParts 30 = .ok (.iload_n 1, 1) := by decide +kernel
theorem dc_Dr_countBadParts_31 : decode cd_Dr_countBadParts 31 = .ok (.ireturn, 1) := by decide +kernel
theorem dc_Dr_countHurdles_0 : decode cd_Dr_countHurdles 0 = .ok (.aload_n 0, 1) := by decide +kernel
theorem dc_Dr_countHurdles_1 : decode cd_Dr_countHurdles 1 = .ok (.invokevirtual 87, 3) := by decide +kernel
theorem dc_Dr_countHurdles_4 : decode cd_Dr_countHurdles 4 = .ok (.istore_n 1, 1) := by decide +kernel
theorem dc_Dr_countHurdles_5 : decode cd_Dr_countHurdles 5 = .ok (.iconst 0, 1) := by decide +kernel
theorem dc_Dr_countHurdles_6 : decode cd_Dr_countHurdles 6 = .ok (.istore_n 2, 1) := by decide +kernel
theorem dc_Dr_countHurdles_7 : decode cd_Dr_countHurdles 7 = .ok (.iconst 0, 1) := by decide +kernel
theorem dc_Dr_countHurdles_8 : decode cd_Dr_countHurdles 8 = .ok (.istore_n 3, 1) := by decide +kernel
theorem dc_Dr_countHurdles_9 : decode cd_Dr_countHurdles 9 = .ok (.iload_n 3, 1) := by decide +kernel
theorem dc_Dr_countHurdles_10 : decode cd_Dr_countHurdles 10 = .ok (.aload_n 0, 1) := by decide +kernel
theorem dc_Dr_countHurdles_11 : decode cd_Dr_countHurdles 11 = .ok (.getfield 40, 3) := by decide +kernel
theorem dc_Dr_countHurdles_14 : decode cd_Dr_countHurdles 14 = .ok (.if_icmp .ge 31, 3) := by decide +kernel
theorem dc_Dr_countHurdles_17 : decode cd_Dr_countHurdles 17 = .ok (.aload_n 0, 1) := by decide +kernel
theorem dc_Dr_countHurdles_18 : decode cd_Dr_countHurdles 18 = .ok (.getfield 34, 3) := by decide +kernel
theorem dc_Dr_countHurdles_21 : decode cd_Dr_countHurdles 21 = .ok (.iload_n 3, 1) := by decide +kernel
theorem dc_Dr_countHurdles_22 : decode cd_Dr_countHurdles 22 = .ok (.baload, 1) := by decide +kernel
theorem dc_Dr_countHurdles_23 : decode cd_Dr_countHurdles 23 = .ok (.ifCond .eq 16, 3) := by decide +kernel
theorem dc_Dr_countHurdles_26 : decode cd_Dr_countHurdles 26 = .ok (.aload_n 0, 1) := by decide +kernel
theorem dc_Dr_countHurdles_27 : decode cd_Dr_countHurdles 27 = .ok (.iload_n 3, 1) := by decide +kernel
theorem dc_Dr_countHurdles_28 : decode cd_Dr_countHurdles 28 = .ok (.iload_n 1, 1) := by decide +kernel
theorem dc_Dr_countHurdles_29 : decode cd_Dr_countHurdles 29 = .ok (.invokevirtual 91, 3) := by decide +kernel
theorem dc_Dr_countHurdles_32 : decode cd_Dr_countHurdles 32 = .ok (.iconst 1, 1) := by decide +kernel
theorem dc_Dr_countHurdles_33 : decode cd_Dr_countHurdles 33 = .ok (.if_icmp .gt 6, 3) := by decide +kernel
theorem dc_Dr_countHurdles_36 : decode cd_Dr_countHurdles 36 = .ok (.iinc 2 1, 3) := by decide +kernel
theorem dc_Dr_countHurdles_39 : decode cd_Dr_countHurdles 39 = .ok (.iinc 3 1, 3) := by decide +kernel
theorem dc_Dr_countHurdles_42 : decode cd_Dr_countHurdles 42 = .ok (.goto (-33), 3) := by decide +kernel
theorem dc_Dr_countHurdles_45 : decode cd_Dr_countHurdles 45 = .ok (.iload_n 2, 1) := by decide +kernel
theorem dc_Dr_countHurdles_46 : decode cd_Dr_countHurdles 46 = .ok (.ireturn, 1) := by decide +kernel
theorem dc_Dr_writeBadAround_0 : decode cd_Dr_writeBadAround 0 = .ok (.iconst 0, 1) := by decide +kernel
theorem dc_Dr_writeBadAround_1 : decode cd_Dr_writeBadAround 1 = .ok (.istore_n 1, 1) := by decide +kernel
theorem dc_Dr_writeBadAround_2 : decode cd_Dr_writeBadAround 2 = .ok (.iconst 0, 1) := by decide +kernel
theorem dc_Dr_writeBadAround_3 : decode cd_Dr_writeBadAround 3 = .ok (.istore_n 2, 1) := by decide +kernel
theorem dc_Dr_writeBadAround_4 : decode cd_Dr_writeBadAround 4 = .ok (.iload_n 2, 1) := by decide +kernel
theorem dc_Dr_writeBadAround_5 : decode cd_Dr_writeBadAround 5 = .ok (.aload_n 0, 1) := by decide +kernel
theorem dc_Dr_writeBadAround_6 : decode cd_Dr_writeBadAround 6 = .ok (.getfield 44, 3) := by decide +kernel
theorem dc_Dr_writeBadAround_9 : decode cd_Dr_writeBadAround 9 = .ok (.if_icmp .ge 42, 3) := by decide +kernel
theorem dc_Dr_writeBadAround_12 : decode cd_Dr_writeBadAround 12 = .ok (.aload_n 0, 1) := by decide +kernel
theorem dc_Dr_writeBadAround_13 : decode cd_Dr_writeBadAround 13 = .ok (.getfield 31, 3) := by decide +kernel
theorem dc_Dr_writeBadAround_16 : decode cd_Dr_writeBadAround 16 = .ok (.aload_n 0, 1) := by decide +kernel
theorem dc_Dr_writeBadAround_17 : decode cd_Dr_writeBadAround 17 = .ok (.getfield 21, 3) := by decide +kernel
theorem dc_Dr_writeBadAround_20 : decode cd_Dr_writeBadAround 20 = .ok (.iload_n 2, 1) := by decide +kernel
theorem dc_Dr_writeBadAround_21 : decode cd_Dr_writeBadAround 21 = .ok (.iaload, 1) := by decide +kernel
theorem dc_Dr_writeBadAround_22 : decode cd_Dr_writeBadAround 22 = .ok (.iconst 2, 1) := by decide +kernel
theorem dc_Dr_writeBadAround_23 : decode cd_Dr_writeBadAround 23 = .ok (.idiv, 1) := by decide +kernel
theorem dc_Dr_writeBadAround_24 : decode cd_Dr_writeBadAround 24 = .ok (.iaload, 1) := by decide +kernel
theorem dc_Dr_writeBadAround_25 : decode cd_Dr_writeBadAround 25 = .ok (.istore_n 3, 1) := by decide +kernel
theorem dc_Dr_writeBadAround_26 : decode cd_Dr_writeBadAround 26 = .ok (.aload_n 0, 1) := by decide +kernel
theorem dc_Dr_writeBadAround_27 : decode cd_Dr_writeBadAround 27 = .ok (.getfield 34, 3) := by decide +kernel
theorem dc_Dr_writeBadAround_30 : decode cd_Dr_writeBadAround 30 = .ok (.iload_n 3, 1) := by decide +kernel
theorem dc_Dr_writeBadAround_31 : decode cd_Dr_writeBadAround 31 = .ok (.baload, 1) := by decide +kernel
theorem dc_Dr_writeBadAround_32 : decode cd_Dr_writeBadAround 32 = .ok (.ifCond .eq 13, 3) := by decide +kernel
theorem dc_Dr_writeBadAround_35 : decode cd_Dr_writeBadAround 35 = .ok (.aload_n 0, 1) := by decide +kernel
theorem dc_Dr_writeBadAround_36 : decode cd_Dr_writeBadAround 36 = .ok (.getfield 37, 3) := by decide +kernel
theorem dc_Dr_writeBadAround_39 : decode cd_Dr_writeBadAround 39 = .ok (.iload_n 1, 1) := by decide +kernel
theorem dc_Dr_writeBadAround_40 : decode cd_Dr_writeBadAround 40 = .ok (.iload_n 3, 1) := by decide +kernel
theorem dc_Dr_writeBadAround_41 : decode cd_Dr_writeBadAround 41 = .ok (.iastore, 1) := by decide +kernel
theorem dc_Dr_writeBadAround_42 : decode cd_Dr_writeBadAround 42 = .ok (.iinc 1 1, 3) := by decide +kernel
theorem dc_Dr_writeBadAround_45 : decode cd_Dr_writeBadAround 45 = .ok (.iinc 2 1, 3) := by decide +kernel
theorem dc_Dr_writeBadAround_48 : decode cd_Dr_writeBadAround 48 = .ok (.goto (-44), 3) := by decide +kernel
theorem dc_Dr_writeBadAround_51 : decode cd_Dr_writeBadAround 51 = .ok (.iload_n 1, 1) := by decide +kernel
theorem dc_Dr_writeBadAround_52 : decode cd_Dr_writeBadAround 52 = .ok (.ireturn, 1) := by decide +kernel
theorem dc_Dr_countRunEnds_0 : decode cd_Dr_countRunEnds 0 = .ok (.iconst 0, 1) := by decide +kernel
theorem dc_Dr_countRunEnds_1 : decode cd_Dr_countRunEnds 1 = .ok (.istore_n 3, 1) := by decide +kernel
theorem dc_Dr_countRunEnds_2 : decode cd_Dr_countRunEnds 2 = .ok (.iconst 0, 1) := by decide +kernel
theorem dc_Dr_countRunEnds_3 : decode cd_Dr_countRunEnds 3 = .ok (.istore 4, 2) := by decide +kernel
theorem dc_Dr_countRunEnds_5 : decode cd_Dr_countRunEnds 5 = .ok (.iload 4, 2) := by decide +kernel
theorem dc_Dr_countRunEnds_7 : decode cd_Dr_countRunEnds 7 = .ok (.iload_n 2, 1) := by decide +kernel
theorem dc_Dr_countRunEnds_8 : decode cd_Dr_countRunEnds 8 = .ok (.if_icmp .ge 52, 3) := by decide +kernel
theorem dc_Dr_countRunEnds_11 : decode cd_Dr_countRunEnds 11 = .ok (.iload 4, 2) := by decide +kernel
theorem dc_Dr_countRunEnds_13 : decode cd_Dr_countRunEnds 13 = .ok (.iconst 1, 1) := by decide +kernel
theorem dc_Dr_countRunEnds_14 : decode cd_Dr_countRunEnds 14 = .ok (.iadd, 1) := by decide +kernel
theorem dc_Dr_countRunEnds_15 : decode cd_Dr_countRunEnds 15 = .ok (.iload_n 2, 1) := by decide +kernel
theorem dc_Dr_countRunEnds_16 : decode cd_Dr_countRunEnds 16 = .ok (.if_icmp .ge 10, 3) := by decide +kernel
theorem dc_Dr_countRunEnds_19 : decode cd_Dr_countRunEnds 19 = .ok (.iload 4, 2) := by decide +kernel
theorem dc_Dr_countRunEnds_21 : decode cd_Dr_countRunEnds 21 = .ok (.iconst 1, 1) := by decide +kernel
theorem dc_Dr_countRunEnds_22 : decode cd_Dr_countRunEnds 22 = .ok (.iadd, 1) := by decide +kernel
theorem dc_Dr_countRunEnds_23 : decode cd_Dr_countRunEnds 23 = .ok (.goto 4, 3) := by decide +kernel
theorem dc_Dr_countRunEnds_26 : decode cd_Dr_countRunEnds 26 = .ok (.iconst 0, 1) := by decide +kernel
theorem dc_Dr_countRunEnds_27 : decode cd_Dr_countRunEnds 27 = .ok (.istore 5, 2) := by decide +kernel
theorem dc_Dr_countRunEnds_29 : decode cd_Dr_countRunEnds 29 = .ok (.aload_n 0, 1) := by decide +kernel
theorem dc_Dr_countRunEnds_30 : decode cd_Dr_countRunEnds 30 = .ok (.getfield 37, 3) := by decide +kernel
theorem dc_Dr_countRunEnds_33 : decode cd_Dr_countRunEnds 33 = .ok (.iload 4, 2) := by decide +kernel
theorem dc_Dr_countRunEnds_35 : decode cd_Dr_countRunEnds 35 = .ok (.iaload, 1) := by decide +kernel
theorem dc_Dr_countRunEnds_36 : decode cd_Dr_countRunEnds 36 = .ok (.iload_n 1, 1) := by decide +kernel
theorem dc_Dr_countRunEnds_37 : decode cd_Dr_countRunEnds 37 = .ok (.if_icmp .ne 17, 3) := by decide +kernel
theorem dc_Dr_countRunEnds_40 : decode cd_Dr_countRunEnds 40 = .ok (.aload_n 0, 1) := by decide +kernel
theorem dc_Dr_countRunEnds_41 : decode cd_Dr_countRunEnds 41 = .ok (.getfield 37, 3) := by decide +kernel
theorem dc_Dr_countRunEnds_44 : decode cd_Dr_countRunEnds 44 = .ok (.iload 5, 2) := by decide +kernel
theorem dc_Dr_countRunEnds_46 : decode cd_Dr_countRunEnds 46 = .ok (.iaload, 1) := by decide +kernel
theorem dc_Dr_countRunEnds_47 : decode cd_Dr_countRunEnds 47 = .ok (.iload_n 1, 1) := by decide +kernel
theorem dc_Dr_countRunEnds_48 : decode cd_Dr_countRunEnds 48 = .ok (.if_icmp .eq 6, 3) := by decide +kernel
theorem dc_Dr_countRunEnds_51 : decode cd_Dr_countRunEnds 51 = .ok (.iinc 3 1, 3) := by decide +kernel
theorem dc_Dr_countRunEnds_54 : decode cd_Dr_countRunEnds 54 = .ok (.iinc 4 1, 3) := by decide +kernel
theorem dc_Dr_countRunEnds_57 : decode cd_Dr_countRunEnds 57 = .ok (.goto (-52), 3) := by decide +kernel
theorem dc_Dr_countRunEnds_60 : decode cd_Dr_countRunEnds 60 = .ok (.iload_n 3, 1) := by decide +kernel
theorem dc_Dr_countRunEnds_61 : decode cd_Dr_countRunEnds 61 = .ok (.ireturn, 1) := by decide +kernel
theorem dc_Dr_countOriented_0 : decode cd_Dr_countOriented 0 = .ok (.iconst 0, 1) := by decide +kernel
theorem dc_Dr_countOriented_1 : decode cd_Dr_countOriented 1 = .ok (.istore_n 1, 1) := by decide +kernel
theorem dc_Dr_countOriented_2 : decode cd_Dr_countOriented 2 = .ok (.iconst 0, 1) := by decide +kernel
theorem dc_Dr_countOriented_3 : decode cd_Dr_countOriented 3 = .ok (.istore_n 2, 1) := by decide +kernel
theorem dc_Dr_countOriented_4 : decode cd_Dr_countOriented 4 = .ok (.iload_n 2, 1) := by decide +kernel
theorem dc_Dr_countOriented_5 : decode cd_Dr_countOriented 5 = .ok (.aload_n 0, 1) := by decide +kernel
theorem dc_Dr_countOriented_6 : decode cd_Dr_countOriented 6 = .ok (.getfield 40, 3) := by decide +kernel
theorem dc_Dr_countOriented_9 : decode cd_Dr_countOriented 9 = .ok (.if_icmp .ge 20, 3) := by decide +kernel
theorem dc_Dr_countOriented_12 : decode cd_Dr_countOriented 12 = .ok (.aload_n 0, 1) := by decide +kernel
theorem dc_Dr_countOriented_13 : decode cd_Dr_countOriented 13 = .ok (.iload_n 2, 1) := by decide +kernel
theorem dc_Dr_countOriented_14 : decode cd_Dr_countOriented 14 = .ok (.invokevirtual 80, 3) := by decide +kernel
theorem dc_Dr_countOriented_17 : decode cd_Dr_countOriented 17 = .ok (.ifCond .eq 6, 3) := by decide +kernel
theorem dc_Dr_countOriented_20 : decode cd_Dr_countOriented 20 = .ok (.iinc 1 1, 3) := by decide +kernel
theorem dc_Dr_countOriented_23 : decode cd_Dr_countOriented 23 = .ok (.iinc 2 1, 3) := by decide +kernel
theorem dc_Dr_countOriented_26 : decode cd_Dr_countOriented 26 = .ok (.goto (-22), 3) := by decide +kernel
theorem dc_Dr_countOriented_29 : decode cd_Dr_countOriented 29 = .ok (.iload_n 1, 1) := by decide +kernel
theorem dc_Dr_countOriented_30 : decode cd_Dr_countOriented 30 = .ok (.ireturn, 1) := by decide +kernel
theorem dc_Dr_countBreakpoints_0 : decode cd_Dr_countBreakpoints 0 = .ok (.iconst 0, 1) := by decide +kernel
theorem dc_Dr_countBreakpoints_1 : decode cd_Dr_countBreakpoints 1 = .ok (.istore_n 1, 1) := by decide +kernel
theorem dc_Dr_countBreakpoints_2 : decode cd_Dr_countBreakpoints 2 = .ok (.iconst 0, 1) := by decide +kernel
theorem dc_Dr_countBreakpoints_3 : decode cd_Dr_countBreakpoints 3 = .ok (.istore_n 2, 1) := by decide +kernel
theorem dc_Dr_countBreakpoints_4 : decode cd_Dr_countBreakpoints 4 = .ok (.iload_n 2, 1) := by decide +kernel
theorem dc_Dr_countBreakpoints_5 : decode cd_Dr_countBreakpoints 5 = .ok (.aload_n 0, 1) := by decide +kernel
theorem dc_Dr_countBreakpoints_6 : decode cd_Dr_countBreakpoints 6 = .ok (.getfield 40, 3) := by decide +kernel
theorem dc_Dr_countBreakpoints_9 : decode cd_Dr_countBreakpoints 9 = .ok (.if_icmp .ge 31, 3) := by decide +kernel
theorem dc_Dr_countBreakpoints_12 : decode cd_Dr_countBreakpoints 12 = .ok (.aload_n 0, 1) := by decide +kernel
theorem dc_Dr_countBreakpoints_13 : decode cd_Dr_countBreakpoints 13 = .ok (.getfield 18, 3) := by decide +kernel
theorem dc_Dr_countBreakpoints_16 : decode cd_Dr_countBreakpoints 16 = .ok (.iload_n 2, 1) := by decide +kernel
theorem dc_Dr_countBreakpoints_17 : decode cd_Dr_countBreakpoints 17 = .ok (.iconst 1, 1) := by decide +kernel
theorem dc_Dr_countBreakpoints_18 : decode cd_Dr_countBreakpoints 18 = .ok (.iadd, 1) := by decide +kernel
theorem dc_Dr_countBreakpoints_19 : decode cd_Dr_countBreakpoints 19 = .ok (.iaload, 1) := by decide +kernel
theorem dc_Dr_countBreakpoints_20 : decode cd_Dr_countBreakpoints 20 = .ok (.aload_n 0, 1) := by decide +kernel
theorem dc_Dr_countBreakpoints_21 : decode cd_Dr_countBreakpoints 21 = .ok (.getfield 18, 3) := by decide +kernel
theorem dc_Dr_countBreakpoints_24 : decode cd_Dr_countBreakpoints 24 = .ok (.iload_n 2, 1) := by decide +kernel
theorem dc_Dr_countBreakpoints_25 : decode cd_Dr_countBreakpoints 25 = .ok (.iaload, 1) := by decide +kernel
theorem dc_Dr_countBreakpoints_26 : decode cd_Dr_countBreakpoints 26 = .ok (.iconst 1, 1) := by decide +kernel
theorem dc_Dr_countBreakpoints_27 : decode cd_Dr_countBreakpoints 27 = .ok (.iadd, 1) := by decide +kernel
theorem dc_Dr_countBreakpoints_28 : decode cd_Dr_countBreakpoints 28 = .ok (.if_icmp .eq 6, 3) := by decide +kernel
theorem dc_Dr_countBreakpoints_31 : decode cd_Dr_countBreakpoints 31 = .ok (.iinc 1 1, 3) := by decide +kernel
theorem dc_Dr_countBreakpoints_34 : decode cd_Dr_countBreakpoints 34 = .ok (.iinc 2 1, 3) := by decide +kernel
theorem dc_Dr_countBreakpoints_37 : decode cd_Dr_countBreakpoints 37 = .ok (.goto (-33), 3) := by decide +kernel
theorem dc_Dr_countBreakpoints_40 : decode cd_Dr_countBreakpoints 40 = .ok (.iload_n 1, 1) := by decide +kernel
theorem dc_Dr_countBreakpoints_41 : decode cd_Dr_countBreakpoints 41 = .ok (.ireturn, 1) := by decide +kernel
theorem dc_Dr_fewestReversals_0 : decode cd_Dr_fewestReversals 0 = .ok (.aload_n 0, 1) := by decide +kernel
theorem dc_Dr_fewestReversals_1 : decode cd_Dr_fewestReversals 1 = .ok (.getfield 40, 3) := by decide +kernel
theorem dc_Dr_fewestReversals_4 : decode cd_Dr_fewestReversals 4 = .ok (.aload_n 0, 1) := by decide +kernel
theorem dc_Dr_fewestReversals_5 : decode cd_Dr_fewestReversals 5 = .ok (.invokevirtual 94, 3) := by decide +kernel
theorem dc_Dr_fewestReversals_8 : decode cd_Dr_fewestReversals 8 = .ok (.isub, 1) := by decide +kernel
theorem dc_Dr_fewestReversals_9 : decode cd_Dr_fewestReversals 9 = .ok (.aload_n 0, 1) := by decide +kernel
theorem dc_Dr_fewestReversals_10 : decode cd_Dr_fewestReversals 10 = .ok (.invokevirtual 97, 3) := by decide +kernel
theorem dc_Dr_fewestReversals_13 : decode cd_Dr_fewestReversals 13 = .ok (.iadd, 1) := by decide +kernel
theorem dc_Dr_fewestReversals_14 : decode cd_Dr_fewestReversals 14 = .ok (.ireturn, 1) := by decide +kernel
theorem dc_Sl_init_0 : decode cd_Sl_init 0 = .ok (.aload_n 0, 1) := by decide +kernel
theorem dc_Sl_init_1 : decode cd_Sl_init 1 = .ok (.invokespecial 3, 3) := by decide +kernel
theorem dc_Sl_init_4 : decode cd_Sl_init 4 = .ok (.aload_n 0, 1) := by decide +kernel
theorem dc_Sl_init_5 : decode cd_Sl_init 5 = .ok (.bipush 6, 2) := by decide +kernel
theorem dc_Sl_init_7 : decode cd_Sl_init 7 = .ok (.newarray .int, 2) := by decide +kernel
theorem dc_Sl_init_9 : decode cd_Sl_init 9 = .ok (.putfield 9, 3) := by decide +kernel
theorem dc_Sl_init_12 : decode cd_Sl_init 12 = .ok (.aload_n 0, 1) := by decide +kernel
theorem dc_Sl_init_13 : decode cd_Sl_init 13 = .ok (.bipush 8, 2) := by decide +kernel
theorem dc_Sl_init_15 : decode cd_Sl_init 15 = .ok (.newarray .int, 2) := by decide +kernel
theorem dc_Sl_init_17 : decode cd_Sl_init 17 = .ok (.putfield 15, 3) := by decide +kernel
theorem dc_Sl_init_20 : decode cd_Sl_init 20 = .ok (.aload_n 0, 1) := by decide +kernel
theorem dc_Sl_init_21 : decode cd_Sl_init 21 = .ok (.bipush 8, 2) := by decide +kernel
theorem dc_Sl_init_23 : decode cd_Sl_init 23 = .ok (.newarray .int, 2) := by decide +kernel
theorem dc_Sl_init_25 : decode cd_Sl_init 25 = .ok (.putfield 18, 3) := by decide +kernel
theorem dc_Sl_init_28 : decode cd_Sl_init 28 = .ok (.aload_n 0, 1) := by decide +kernel
theorem dc_Sl_init_29 : decode cd_Sl_init 29 = .ok (.invokevirtual 21, 3) := by decide +kernel
theorem dc_Sl_init_32 : decode cd_Sl_init 32 = .ok (.return_, 1) := by decide +kernel
theorem dc_Sl_becomePlain_0 : decode cd_Sl_becomePlain 0 = .ok (.iconst 0, 1) := by decide +kernel
theorem dc_Sl_becomePlain_1 : decode cd_Sl_becomePlain 1 = .ok (.istore_n 1, 1) := by decide +kernel
theorem dc_Sl_becomePlain_2 : decode cd_Sl_becomePlain 2 = .ok (.iload_n 1, 1) := by decide +kernel
theorem dc_Sl_becomePlain_3 : decode cd_Sl_becomePlain 3 = .ok (.bipush 6, 2) := by decide +kernel
theorem dc_Sl_becomePlain_5 : decode cd_Sl_becomePlain 5 = .ok (.if_icmp .ge 18, 3) := by decide +kernel
theorem dc_Sl_becomePlain_8 : decode cd_Sl_becomePlain 8 = .ok (.aload_n 0, 1) := by decide +kernel
theorem dc_Sl_becomePlain_9 : decode cd_Sl_becomePlain 9 = .ok (.getfield 9, 3) := by decide +kernel
theorem dc_Sl_becomePlain_12 : decode cd_Sl_becomePlain 12 = .ok (.iload_n 1, 1) := by decide +kernel
theorem dc_Sl_becomePlain_13 : decode cd_Sl_becomePlain 13 = .ok (.iload_n 1, 1) := by decide +kernel
theorem dc_Sl_becomePlain_14 : decode cd_Sl_becomePlain 14 = .ok (.iconst 1, 1) := by decide +kernel
theorem dc_Sl_becomePlain_15 : decode cd_Sl_becomePlain 15 = .ok (.iadd, 1) := by decide +kernel
theorem dc_Sl_becomePlain_16 : decode cd_Sl_becomePlain 16 = .ok (.iastore, 1) := by decide +kernel
theorem dc_Sl_becomePlain_17 : decode cd_Sl_becomePlain 17 = .ok (.iinc 1 1, 3) := by decide +kernel
theorem dc_Sl_becomePlain_20 : decode cd_Sl_becomePlain 20 = .ok (.goto (-18), 3) := by decide +kernel
theorem dc_Sl_becomePlain_23 : decode cd_Sl_becomePlain 23 = .ok (.aload_n 0, 1) := by decide +kernel
theorem dc_Sl_becomePlain_24 : decode cd_Sl_becomePlain 24 = .ok (.iconst 0, 1) := by decide +kernel
theorem dc_Sl_becomePlain_25 : decode cd_Sl_becomePlain 25 = .ok (.putfield 24, 3) := by decide +kernel
theorem dc_Sl_becomePlain_28 : decode cd_Sl_becomePlain 28 = .ok (.return_, 1) := by decide +kernel
theorem dc_Sl_become_0 : decode cd_Sl_become 0 = .ok (.aload_n 1, 1) := by decide +kernel
theorem dc_Sl_become_1 : decode cd_Sl_become 1 = .ok (.iconst 0, 1) := by decide +kernel
theorem dc_Sl_become_2 : decode cd_Sl_become 2 = .ok (.aload_n 0, 1) := by decide +kernel
theorem dc_Sl_become_3 : decode cd_Sl_become 3 = .ok (.getfield 9, 3) := by decide +kernel
theorem dc_Sl_become_6 : decode cd_Sl_become 6 = .ok (.iconst 0, 1) := by decide +kernel
theorem dc_Sl_become_7 : decode cd_Sl_become 7 = .ok (.bipush 6, 2) := by decide +kernel
theorem dc_Sl_become_9 : decode cd_Sl_become 9 = .ok (.invokestatic 28, 3) := by decide +kernel
theorem dc_Sl_become_12 : decode cd_Sl_become 12 = .ok (.aload_n 0, 1) := by decide +kernel
theorem dc_Sl_become_13 : decode cd_Sl_become 13 = .ok (.iconst 0, 1) := by decide +kernel
theorem dc_Sl_become_14 : decode cd_Sl_become 14 = .ok (.putfield 24, 3) := by decide +kernel
theorem dc_Sl_become_17 : decode cd_Sl_become 17 = .ok (.return_, 1) := by decide +kernel
theorem dc_Sl_turnAndKeep_0 : decode cd_Sl_turnAndKeep 0 = .ok (.aload_n 0, 1) := by decide +kernel
theorem dc_Sl_turnAndKeep_1 : decode cd_Sl_turnAndKeep 1 = .ok (.getfield 9, 3) := by decide +kernel
theorem dc_Sl_turnAndKeep_4 : decode cd_Sl_turnAndKeep 4 = .ok (.iload_n 1, 1) := by decide +kernel
theorem dc_Sl_turnAndKeep_5 : decode cd_Sl_turnAndKeep 5 = .ok (.iload_n 2, 1) := by decide +kernel
theorem dc_Sl_turnAndKeep_6 : decode cd_Sl_turnAndKeep 6 = .ok (.invokestatic 34, 3) := by decide +kernel
theorem dc_Sl_turnAndKeep_9 : decode cd_Sl_turnAndKeep 9 = .ok (.aload_n 0, 1) := by decide +kernel
theorem dc_Sl_turnAndKeep_10 : decode cd_Sl_turnAndKeep 10 = .ok (.getfield 24, 3) := by decide +kernel
theorem dc_Sl_turnAndKeep_13 : decode cd_Sl_turnAndKeep 13 = .ok (.bipush 8, 2) := by decide +kernel
theorem dc_Sl_turnAndKeep_15 : decode cd_Sl_turnAndKeep 15 = .ok (.if_icmp .ne 43, 3) := by decide +kernel
theorem dc_Sl_turnAndKeep_18 : decode cd_Sl_turnAndKeep 18 = .ok (.aload_n 0, 1) := by decide +kernel
theorem dc_Sl_turnAndKeep_19 : decode cd_Sl_turnAndKeep 19 = .ok (.getfield 15, 3) := by decide +kernel
theorem dc_Sl_turnAndKeep_22 : decode cd_Sl_turnAndKeep 22 = .ok (.iconst 1, 1) := by decide +kernel
theorem dc_Sl_turnAndKeep_23 : decode cd_Sl_turnAndKeep 23 = .ok (.aload_n 0, 1) := by decide +kernel
theorem dc_Sl_turnAndKeep_24 : decode cd_Sl_turnAndKeep 24 = .ok (.getfield 15, 3) := by decide +kernel
theorem dc_Sl_turnAndKeep_27 : decode cd_Sl_turnAndKeep 27 = .ok (.iconst 0, 1) := by decide +kernel
theorem dc_Sl_turnAndKeep_28 : decode cd_Sl_turnAndKeep 28 = .ok (.bipush 7, 2) := by decide +kernel
theorem dc_Sl_turnAndKeep_30 : decode cd_Sl_turnAndKeep 30 = .ok (.invokestatic 28, 3) := by decide +kernel
theorem dc_Sl_turnAndKeep_33 : decode cd_Sl_turnAndKeep 33 = .ok (.aload_n 0, 1) := by decide +kernel
theorem dc_Sl_turnAndKeep_34 : decode cd_Sl_turnAndKeep 34 = .ok (.getfield 18, 3) := by decide +kernel
theorem dc_Sl_turnAndKeep_37 : decode cd_Sl_turnAndKeep 37 = .ok (.iconst 1, 1) := by decide +kernel
theorem dc_Sl_turnAndKeep_38 : decode cd_Sl_turnAndKeep 38 = .ok (.aload_n 0, 1) := by decide +kernel
theorem dc_Sl_turnAndKeep_39 : decode cd_Sl_turnAndKeep 39 = .ok (.getfield 18, 3) := by decide +kernel
theorem dc_Sl_turnAndKeep_42 : decode cd_Sl_turnAndKeep 42 = .ok (.iconst 0, 1) := by decide +kernel
theorem dc_Sl_turnAndKeep_43 : decode cd_Sl_turnAndKeep 43 = .ok (.bipush 7, 2) := by decide +kernel
theorem dc_Sl_turnAndKeep_45 : decode cd_Sl_turnAndKeep 45 = .ok (.invokestatic 28, 3) := by decide +kernel
theorem dc_Sl_turnAndKeep_48 : decode cd_Sl_turnAndKeep 48 = .ok (.aload_n 0, 1) := by decide +kernel
theorem dc_Sl_turnAndKeep_49 : decode cd_Sl_turnAndKeep 49 = .ok (.dup, 1) := by decide +kernel
theorem dc_Sl_turnAndKeep_50 : decode cd_Sl_turnAndKeep 50 = .ok (.getfield 24, 3) := by decide +kernel
theorem dc_Sl_turnAndKeep_53 : decode cd_Sl_turnAndKeep 53 = .ok (.iconst 1, 1) := by decide +kernel
theorem dc_Sl_turnAndKeep_54 : decode cd_Sl_turnAndKeep 54 = .ok (.isub, 1) := by decide +kernel
theorem dc_Sl_turnAndKeep_55 : decode cd_Sl_turnAndKeep 55 = .ok (.putfield 24, 3) := by decide +kernel
theorem dc_Sl_turnAndKeep_58 : decode cd_Sl_turnAndKeep 58 = .ok (.aload_n 0, 1) := by decide +kernel
theorem dc_Sl_turnAndKeep_59 : decode cd_Sl_turnAndKeep 59 = .ok (.getfield 15, 3) := by decide +kernel
theorem dc_Sl_turnAndKeep_62 : decode cd_Sl_turnAndKeep 62 = .ok (.aload_n 0, 1) := by decide +kernel
theorem dc_Sl_turnAndKeep_63 : decode cd_Sl_turnAndKeep 63 = .ok (.getfield 24, 3) := by decide +kernel
theorem dc_Sl_turnAndKeep_66 : decode cd_Sl_turnAndKeep 66 = .ok (.iload_n 1, 1) := by decide +kernel
theorem dc_Sl_turnAndKeep_67 : decode cd_Sl_turnAndKeep 67 = .ok (.iastore, 1) := by decide +kernel
theorem dc_Sl_turnAndKeep_68 : decode cd_Sl_turnAndKeep 68 = .ok (.aload_n 0, 1) := by decide +kernel
theorem dc_Sl_turnAndKeep_69 : decode cd_Sl_turnAndKeep 69 = .ok (.getfield 18, 3) := by decide +kernel
theorem dc_Sl_turnAndKeep_72 : decode cd_Sl_turnAndKeep 72 = .ok (.aload_n 0, 1) := by decide +kernel
theorem dc_Sl_turnAndKeep_73 : decode cd_Sl_turnAndKeep 73 = .ok (.getfield 24, 3) := by decide +kernel
theorem dc_Sl_turnAndKeep_76 : decode cd_Sl_turnAndKeep 76 = .ok (.iload_n 2, 1) := by decide +kernel
theorem dc_Sl_turnAndKeep_77 : decode cd_Sl_turnAndKeep 77 = .ok (.iastore, 1) := by decide +kernel
theorem dc_Sl_turnAndKeep_78 : decode cd_Sl_turnAndKeep 78 = .ok (.aload_n 0, 1) := by decide +kernel
theorem dc_Sl_turnAndKeep_79 : decode cd_Sl_turnAndKeep 79 = .ok (.dup, 1) := by decide +kernel
theorem dc_Sl_turnAndKeep_80 : decode cd_Sl_turnAndKeep 80 = .ok (.getfield 24, 3) := by decide +kernel
theorem dc_Sl_turnAndKeep_83 : decode cd_Sl_turnAndKeep 83 = .ok (.iconst 1, 1) := by decide +kernel
theorem dc_Sl_turnAndKeep_84 : decode cd_Sl_turnAndKeep 84 = .ok (.iadd, 1) := by decide +kernel
theorem dc_Sl_turnAndKeep_85 : decode cd_Sl_turnAndKeep 85 = .ok (.putfield 24, 3) := by decide +kernel
theorem dc_Sl_turnAndKeep_88 : decode cd_Sl_turnAndKeep 88 = .ok (.return_, 1) := by decide +kernel
theorem dc_Sl_turnBack_0 : decode cd_Sl_turnBack 0 = .ok (.aload_n 0, 1) := by decide +kernel
theorem dc_Sl_turnBack_1 : decode cd_Sl_turnBack 1 = .ok (.getfield 24, 3) := by decide +kernel
theorem dc_Sl_turnBack_4 : decode cd_Sl_turnBack 4 = .ok (.ifCond .ne 5, 3) := by decide +kernel
theorem dc_Sl_turnBack_7 : decode cd_Sl_turnBack 7 = .ok (.iconst 0, 1) := by decide +kernel
theorem dc_Sl_turnBack_8 : decode cd_Sl_turnBack 8 = .ok (.ireturn, 1) := by decide +kernel
theorem dc_Sl_turnBack_9 : decode cd_Sl_turnBack 9 = .ok (.aload_n 0, 1) := by decide +kernel
theorem dc_Sl_turnBack_10 : decode cd_Sl_turnBack 10 = .ok (.dup, 1) := by decide +kernel
theorem dc_Sl_turnBack_11 : decode cd_Sl_turnBack 11 = .ok (.getfield 24, 3) := by decide +kernel
theorem dc_Sl_turnBack_14 : decode cd_Sl_turnBack 14 = .ok (.iconst 1, 1) := by decide +kernel
theorem dc_Sl_turnBack_15 : decode cd_Sl_turnBack 15 = .ok (.isub, 1) := by decide +kernel
theorem dc_Sl_turnBack_16 : decode cd_Sl_turnBack 16 = .ok (.putfield 24, 3) := by decide +kernel
theorem dc_Sl_turnBack_19 : decode cd_Sl_turnBack 19 = .ok (.aload_n 0, 1) := by decide +kernel
theorem dc_Sl_turnBack_20 : decode cd_Sl_turnBack 20 = .ok (.getfield 9, 3) := by decide +kernel
theorem dc_Sl_turnBack_23 : decode cd_Sl_turnBack 23 = .ok (.aload_n 0, 1) := by decide +kernel
theorem dc_Sl_turnBack_24 : decode cd_Sl_turnBack 24 = .ok (.getfield 15, 3) := by decide +kernel
theorem dc_Sl_turnBack_27 : decode cd_Sl_turnBack 27 = .ok (.aload_n 0, 1) := by decide +kernel
theorem dc_Sl_turnBack_28 : decode cd_Sl_turnBack 28 = .ok (.getfield 24, 3) := by decide +kernel
theorem dc_Sl_turnBack_31 : decode cd_Sl_turnBack 31 = .ok (.iaload, 1) := by decide +kernel
theorem dc_Sl_turnBack_32 : decode cd_Sl_turnBack 32 = .ok (.aload_n 0, 1) := by decide +kernel
theorem dc_Sl_turnBack_33 : decode cd_Sl_turnBack 33 = .ok (.getfield 18, 3) := by decide +kernel
theorem dc_Sl_turnBack_36 : decode cd_Sl_turnBack 36 = .ok (.aload_n 0, 1) := by decide +kernel
theorem dc_Sl_turnBack_37 : decode cd_Sl_turnBack 37 = .ok (.getfield 24, 3) := by decide +kernel
theorem dc_Sl_turnBack_40 : decode cd_Sl_turnBack 40 = .ok (.iaload, 1) := by decide +kernel
theorem dc_Sl_turnBack_41 : decode cd_Sl_turnBack 41 = .ok (.invokestatic 34, 3) := by decide +kernel
theorem dc_Sl_turnBack_44 : decode cd_Sl_turnBack 44 = .ok (.iconst 1, 1) := by decide +kernel
theorem dc_Sl_turnBack_45 : decode cd_Sl_turnBack 45 = .ok (.ireturn, 1) := by decide +kernel
theorem dc_Te_init_0 : decode cd_Te_init 0 = .ok (.aload_n 0, 1) := by decide +kernel
theorem dc_Te_init_1 : decode cd_Te_init 1 = .ok (.invokespecial 3, 3) := by decide +kernel
theorem dc_Te_init_4 : decode cd_Te_init 4 = .ok (.aload_n 0, 1) := by decide +kernel
theorem dc_Te_init_5 : decode cd_Te_init 5 = .ok (.bipush 24, 2) := by decide +kernel
theorem dc_Te_init_7 : decode cd_Te_init 7 = .ok (.newarray .int, 2) := by decide +kernel
theorem dc_Te_init_9 : decode cd_Te_init 9 = .ok (.putfield 11, 3) := by decide +kernel
theorem dc_Te_init_12 : decode cd_Te_init 12 = .ok (.return_, 1) := by decide +kernel
theorem dc_Te_add_0 : decode cd_Te_add 0 = .ok (.iconst 0, 1) := by decide +kernel
theorem dc_Te_add_1 : decode cd_Te_add 1 = .ok (.istore_n 3, 1) := by decide +kernel
theorem dc_Te_add_2 : decode cd_Te_add 2 = .ok (.iconst 0, 1) := by decide +kernel
theorem dc_Te_add_3 : decode cd_Te_add 3 = .ok (.istore 4, 2) := by decide +kernel
theorem dc_Te_add_5 : decode cd_Te_add 5 = .ok (.iload 4, 2) := by decide +kernel
theorem dc_Te_add_7 : decode cd_Te_add 7 = .ok (.bipush 8, 2) := by decide +kernel
theorem dc_Te_add_9 : decode cd_Te_add 9 = .ok (.if_icmp .ge 21, 3) := by decide +kernel
theorem dc_Te_add_12 : decode cd_Te_add 12 = .ok (.lload_n 1, 1) := by decide +kernel
theorem dc_Te_add_13 : decode cd_Te_add 13 = .ok (.iload 4, 2) := by decide +kernel
theorem dc_Te_add_15 : decode cd_Te_add 15 = .ok (.invokestatic 15, 3) := by decide +kernel
theorem dc_Te_add_18 : decode cd_Te_add 18 = .ok (.ifCond .eq 6, 3) := by decide +kernel
theorem dc_Te_add_21 : decode cd_Te_add 21 = .ok (.iinc 3 1, 3) := by decide +kernel
theorem dc_Te_add_24 : decode cd_Te_add 24 = .ok (.iinc 4 1, 3) := by decide +kernel
theorem dc_Te_add_27 : decode cd_Te_add 27 = .ok (.goto (-22), 3) := by decide +kernel
theorem dc_Te_add_30 : decode cd_Te_add 30 = .ok (.aload_n 0, 1) := by decide +kernel
theorem dc_Te_add_31 : decode cd_Te_add 31 = .ok (.getfield 19, 3) := by decide +kernel
theorem dc_Te_add_34 : decode cd_Te_add 34 = .ok (.iload_n 3, 1) := by decide +kernel
theorem dc_Te_add_35 : decode cd_Te_add 35 = .ok (.iadd, 1) := by decide +kernel
theorem dc_Te_add_36 : decode cd_Te_add 36 = .ok (.bipush 24, 2) := by decide +kernel
theorem dc_Te_add_38 : decode cd_Te_add 38 = .ok (.if_icmp .le 5, 3) := by decide +kernel
theorem dc_Te_add_41 : decode cd_Te_add 41 = .ok (.iconst (-1), 1) := by decide +kernel
theorem dc_Te_add_42 : decode cd_Te_add 42 = .ok (.ireturn, 1) := by decide +kernel
theorem dc_Te_add_43 : decode cd_Te_add 43 = .ok (.iconst 0, 1) := by decide +kernel
theorem dc_Te_add_44 : decode cd_Te_add 44 = .ok (.istore 4, 2) := by decide +kernel
theorem dc_Te_add_46 : decode cd_Te_add 46 = .ok (.iload 4, 2) := by decide +kernel
theorem dc_Te_add_48 : decode cd_Te_add 48 = .ok (.bipush 8, 2) := by decide +kernel
theorem dc_Te_add_50 : decode cd_Te_add 50 = .ok (.if_icmp .ge 43, 3) := by decide +kernel
theorem dc_Te_add_53 : decode cd_Te_add 53 = .ok (.lload_n 1, 1) := by decide +kernel
theorem dc_Te_add_54 : decode cd_Te_add 54 = .ok (.iload 4, 2) := by decide +kernel
theorem dc_Te_add_56 : decode cd_Te_add 56 = .ok (.invokestatic 15, 3) := by decide +kernel
theorem dc_Te_add_59 : decode cd_Te_add 59 = .ok (.istore 5, 2) := by decide +kernel
theorem dc_Te_add_61 : decode cd_Te_add 61 = .ok (.iload 5, 2) := by decide +kernel
theorem dc_Te_add_63 : decode cd_Te_add 63 = .ok (.ifCond .eq 24, 3) := by decide +kernel
theorem dc_Te_add_66 : decode cd_Te_add 66 = .ok (.aload_n 0, 1) := by decide +kernel
theorem dc_Te_add_67 : decode cd_Te_add 67 = .ok (.getfield 11, 3) := by decide +kernel
theorem dc_Te_add_70 : decode cd_Te_add 70 = .ok (.aload_n 0, 1) := by decide +kernel
theorem dc_Te_add_71 : decode cd_Te_add 71 = .ok (.getfield 19, 3) := by decide +kernel
theorem dc_Te_add_74 : decode cd_Te_add 74 = .ok (.iload 5, 2) := by decide +kernel
theorem dc_Te_add_76 : decode cd_Te_add 76 = .ok (.iastore, 1) := by decide +kernel
theorem dc_Te_add_77 : decode cd_Te_add 77 = .ok (.aload_n 0, 1) := by decide +kernel
theorem dc_Te_add_78 : decode cd_Te_add 78 = .ok (.dup, 1) := by decide +kernel
theorem dc_Te_add_79 : decode cd_Te_add 79 = .ok (.getfield 19, 3) := by decide +kernel
theorem dc_Te_add_82 : decode cd_Te_add 82 = .ok (.iconst 1, 1) := by decide +kernel
theorem dc_Te_add_83 : decode cd_Te_add 83 = .ok (.iadd, 1) := by decide +kernel
theorem dc_Te_add_84 : decode cd_Te_add 84 = .ok (.putfield 19, 3) := by decide +kernel
theorem dc_Te_add_87 : decode cd_Te_add 87 = .ok (.iinc 4 1, 3) := by decide +kernel
theorem dc_Te_add_90 : decode cd_Te_add 90 = .ok (.goto (-44), 3) := by decide +kernel
theorem dc_Te_add_93 : decode cd_Te_add 93 = .ok (.aload_n 0, 1) := by decide +kernel
theorem dc_Te_add_94 : decode cd_Te_add 94 = .ok (.getfield 19, 3) := by decide +kernel
theorem dc_Te_add_97 : decode cd_Te_add 97 = .ok (.ireturn, 1) := by decide +kernel
theorem dc_Te_byteAt_0 : decode cd_Te_byteAt 0 = .ok (.lload_n 0, 1) := by decide +kernel
theorem dc_Te_byteAt_1 : decode cd_Te_byteAt 1 = .ok (.bipush 8, 2) := by decide +kernel
theorem dc_Te_byteAt_3 : decode cd_Te_byteAt 3 = .ok (.iload_n 2, 1) := by decide +kernel
theorem dc_Te_byteAt_4 : decode cd_Te_byteAt 4 = .ok (.imul, 1) := by decide +kernel
theorem dc_Te_byteAt_5 : decode cd_Te_byteAt 5 = .ok (.lushr, 1) := by decide +kernel
theorem dc_Te_byteAt_6 : decode cd_Te_byteAt 6 = .ok (.l2i, 1) := by decide +kernel
theorem dc_Te_byteAt_7 : decode cd_Te_byteAt 7 = .ok (.sipush 255, 3) := by decide +kernel
theorem dc_Te_byteAt_10 : decode cd_Te_byteAt 10 = .ok (.iand, 1) := by decide +kernel
theorem dc_Te_byteAt_11 : decode cd_Te_byteAt 11 = .ok (.ireturn, 1) := by decide +kernel
theorem dc_Te_empty_0 : decode cd_Te_empty 0 = .ok (.aload_n 0, 1) := by decide +kernel
theorem dc_Te_empty_1 : decode cd_Te_empty 1 = .ok (.getfield 19, 3) := by decide +kernel
theorem dc_Te_empty_4 : decode cd_Te_empty 4 = .ok (.istore_n 1, 1) := by decide +kernel
theorem dc_Te_empty_5 : decode cd_Te_empty 5 = .ok (.aload_n 0, 1) := by decide +kernel
theorem dc_Te_empty_6 : decode cd_Te_empty 6 = .ok (.iconst 0, 1) := by decide +kernel
theorem dc_Te_empty_7 : decode cd_Te_empty 7 = .ok (.putfield 19, 3) := by decide +kernel
theorem dc_Te_empty_10 : decode cd_Te_empty 10 = .ok (.iload_n 1, 1) := by decide +kernel
theorem dc_Te_empty_11 : decode cd_Te_empty 11 = .ok (.ireturn, 1) := by decide +kernel
theorem dc_Te_parse_0 : decode cd_Te_parse 0 = .ok (.iconst 0, 1) := by decide +kernel
theorem dc_Te_parse_1 : decode cd_Te_parse 1 = .ok (.istore_n 3, 1) := by decide +kernel
theorem dc_Te_parse_2 : decode cd_Te_parse 2 = .ok (.iconst 0, 1) := by decide +kernel
theorem dc_Te_parse_3 : decode cd_Te_parse 3 = .ok (.istore 4, 2) := by decide +kernel
theorem dc_Te_parse_5 : decode cd_Te_parse 5 = .ok (.iconst 0, 1) := by decide +kernel
theorem dc_Te_parse_6 : decode cd_Te_parse 6 = .ok (.istore 5, 2) := by decide +kernel
theorem dc_Te_parse_8 : decode cd_Te_parse 8 = .ok (.iconst 0, 1) := by decide +kernel
theorem dc_Te_parse_9 : decode cd_Te_parse 9 = .ok (.istore 6, 2) := by decide +kernel
theorem dc_Te_parse_11 : decode cd_Te_parse 11 = .ok (.iload 6, 2) := by decide +kernel
theorem dc_Te_parse_13 : decode cd_Te_parse 13 = .ok (.aload_n 0, 1) := by decide +kernel
theorem dc_Te_parse_14 : decode cd_Te_parse 14 = .ok (.getfield 19, 3) := by decide +kernel
theorem dc_Te_parse_17 : decode cd_Te_parse 17 = .ok (.if_icmp .ge 141, 3) := by decide +kernel
theorem dc_Te_parse_20 : decode cd_Te_parse 20 = .ok (.aload_n 0, 1) := by decide +kernel
theorem dc_Te_parse_21 : decode cd_Te_parse 21 = .ok (.getfield 11, 3) := by decide +kernel
theorem dc_Te_parse_24 : decode cd_Te_parse 24 = .ok (.iload 6, 2) := by decide +kernel
theorem dc_Te_parse_26 : decode cd_Te_parse 26 = .ok (.iaload, 1) := by decide +kernel
theorem dc_Te_parse_27 : decode cd_Te_parse 27 = .ok (.istore 7, 2) := by decide +kernel
theorem dc_Te_parse_29 : decode cd_Te_parse 29 = .ok (.iload 7, 2) := by decide +kernel
theorem dc_Te_parse_31 : decode cd_Te_parse 31 = .ok (.bipush 32, 2) := by decide +kernel
theorem dc_Te_parse_33 : decode cd_Te_parse 33 = .ok (.if_icmp .ne 11, 3) := by decide +kernel
theorem dc_Te_parse_36 : decode cd_Te_parse 36 = .ok (.iload 5, 2) := by decide +kernel
theorem dc_Te_parse_38 : decode cd_Te_parse 38 = .ok (.ifCond .ne 6, 3) := by decide +kernel
theorem dc_Te_parse_41 : decode cd_Te_parse 41 = .ok (.goto 111, 3) := by decide +kernel
theorem dc_Te_parse_44 : decode cd_Te_parse 44 = .ok (.iload_n 3, 1) := by decide +kernel
theorem dc_Te_parse_45 : decode cd_Te_parse 45 = .ok (.iload_n 2, 1) := by decide +kernel
theorem dc_Te_parse_46 : decode cd_Te_parse 46 = .ok (.if_icmp .ne 6, 3) := by decide +kernel
theorem dc_Te_parse_49 : decode cd_Te_parse 49 = .ok (.iload 6, 2) := by decide +kernel
theorem dc_Te_parse_51 : decode cd_Te_parse 51 = .ok (.ireturn, 1) := by decide +kernel
theorem dc_Te_parse_52 : decode cd_Te_parse 52 = .ok (.iload 5, 2) := by decide +kernel
theorem dc_Te_parse_54 : decode cd_Te_parse 54 = .ok (.ifCond .ne 34, 3) := by decide +kernel
theorem dc_Te_parse_57 : decode cd_Te_parse 57 = .ok (.iload 7, 2) := by decide +kernel
theorem dc_Te_parse_59 : decode cd_Te_parse 59 = .ok (.bipush 43, 2) := by decide +kernel
theorem dc_Te_parse_61 : decode cd_Te_parse 61 = .ok (.if_icmp .eq 10, 3) := by decide +kernel
theorem dc_Te_parse_64 : decode cd_Te_parse 64 = .ok (.iload 7, 2) := by decide +kernel
theorem dc_Te_parse_66 : decode cd_Te_parse 66 = .ok (.bipush 45, 2) := by decide +kernel
theorem dc_Te_parse_68 : decode cd_Te_parse 68 = .ok (.if_icmp .ne 20, 3) := by decide +kernel
theorem dc_Te_parse_71 : decode cd_Te_parse 71 = .ok (.iload 7, 2) := by decide +kernel
theorem dc_Te_parse_73 : decode cd_Te_parse 73 = .ok (.bipush 43, 2) := by decide +kernel
theorem dc_Te_parse_75 : decode cd_Te_parse 75 = .ok (.if_icmp .ne 7, 3) := by decide +kernel
theorem dc_Te_parse_78 : decode cd_Te_parse 78 = .ok (.iconst 1, 1) := by decide +kernel
theorem dc_Te_parse_79 : decode cd_Te_parse 79 = .ok (.goto 4, 3) := by decide +kernel
theorem dc_Te_parse_82 : decode cd_Te_parse 82 = .ok (.iconst (-1), 1) := by decide +kernel
theorem dc_Te_parse_83 : decode cd_Te_parse 83 = .ok (.istore 5, 2) := by decide +kernel
theorem dc_Te_parse_85 : decode cd_Te_parse 85 = .ok (.goto 67, 3) := by decide +kernel
theorem dc_Te_parse_88 : decode cd_Te_parse 88 = .ok (.iload 7, 2) := by decide +kernel
theorem dc_Te_parse_90 : decode cd_Te_parse 90 = .ok (.bipush 48, 2) := by decide +kernel
theorem dc_Te_parse_92 : decode cd_Te_parse 92 = .ok (.isub, 1) := by decide +kernel
theorem dc_Te_parse_93 : decode cd_Te_parse 93 = .ok (.istore 8, 2) := by decide +kernel
theorem dc_Te_parse_95 : decode cd_Te_parse 95 = .ok (.iload 8, 2) := by decide +kernel
theorem dc_Te_parse_97 : decode cd_Te_parse 97 = .ok (.iconst 1, 1) := by decide +kernel
theorem dc_Te_parse_98 : decode cd_Te_parse 98 = .ok (.if_icmp .lt 20, 3) := by decide +kernel
theorem dc_Te_parse_101 : decode cd_Te_parse 101 = .ok (.iload 8, 2) := by decide +kernel
theorem dc_Te_parse_103 : decode cd_Te_parse 103 = .ok (.iload_n 2, 1) := by decide +kernel
theorem dc_Te_parse_104 : decode cd_Te_parse 104 = .ok (.if_icmp .gt 14, 3) := by decide +kernel
theorem dc_Te_parse_107 : decode cd_Te_parse 107 = .ok (.iload 4, 2) := by decide +kernel
theorem dc_Te_parse_109 : decode cd_Te_parse 109 = .ok (.iload 8, 2) := by decide +kernel
theorem dc_Te_parse_111 : decode cd_Te_parse 111 = .ok (.ishr, 1) := by decide +kernel
theorem dc_Te_parse_112 : decode cd_Te_parse 112 = .ok (.iconst 1, 1) := by decide +kernel
theorem dc_Te_parse_113 : decode cd_Te_parse 113 = .ok (.iand, 1) := by decide +kernel
theorem dc_Te_parse_114 : decode cd_Te_parse 114 = .ok (.iconst 1, 1) := by decide +kernel
theorem dc_Te_parse_115 : decode cd_Te_parse 115 = .ok (.if_icmp .ne 6, 3) := by decide +kernel
theorem dc_Te_parse_118 : decode cd_Te_parse 118 = .ok (.iload 6, 2) := by decide +kernel
theorem dc_Te_parse_120 : decode cd_Te_parse 120 = .ok (.ireturn, 1) := by decide +kernel
theorem dc_Te_parse_121 : decode cd_Te_parse 121 = .ok (.aload_n 1, 1) := by decide +kernel
theorem dc_Te_parse_122 : decode cd_Te_parse 122 = .ok (.iload_n 3, 1) := by decide +kernel
theorem dc_Te_parse_123 : decode cd_Te_parse 123 = .ok (.iload 5, 2) := by decide +kernel
theorem dc_Te_parse_125 : decode cd_Te_parse 125 = .ok (.ifCond .ge 9, 3) := by decide +kernel
theorem dc_Te_parse_128 : decode cd_Te_parse 128 = .ok (.iload 8, 2) := by decide +kernel
theorem dc_Te_parse_130 : decode cd_Te_parse 130 = .ok (.ineg, 1) := by decide +kernel
theorem dc_Te_parse_131 : decode cd_Te_parse 131 = .ok (.goto 5, 3) := by decide +kernel
theorem dc_Te_parse_134 : decode cd_Te_parse 134 = .ok (.iload 8, 2) := by decide +kernel
theorem dc_Te_parse_136 : decode cd_Te_parse 136 = .ok (.iastore, 1) := by decide +kernel
theorem dc_Te_parse_137 : decode cd_Te_parse 137 = .ok (.iinc 3 1, 3) := by decide +kernel
theorem dc_Te_parse_140 : decode cd_Te_parse 140 = .ok (.iload 4, 2) := by decide +kernel
theorem dc_Te_parse_142 : decode cd_Te_parse 142 = .ok (.iconst 1, 1) := by decide +kernel
theorem dc_Te_parse_143 : decode cd_Te_parse 143 = .ok (.iload 8, 2) := by decide +kernel
theorem dc_Te_parse_145 : decode cd_Te_parse 145 = .ok (.ishl, 1) := by decide +kernel
theorem dc_Te_parse_146 : decode cd_Te_parse 146 = .ok (.ior, 1) := by decide +kernel
theorem dc_Te_parse_147 : decode cd_Te_parse 147 = .ok (.istore 4, 2) := by decide +kernel
theorem dc_Te_parse_149 : decode cd_Te_parse 149 = .ok (.iconst 0, 1) := by decide +kernel
theorem dc_Te_parse_150 : decode cd_Te_parse 150 = .ok (.istore 5, 2) := by decide +kernel
theorem dc_Te_parse_152 : decode cd_Te_parse 152 = .ok (.iinc 6 1, 3) := by decide +kernel
theorem dc_Te_parse_155 : decode cd_Te_parse 155 = .ok (.goto (-144), 3) := by decide +kernel
theorem dc_Te_parse_158 : decode cd_Te_parse 158 = .ok (.iload_n 3, 1) := by decide +kernel
theorem dc_Te_parse_159 : decode cd_Te_parse 159 = .ok (.iload_n 2, 1) := by decide +kernel
theorem dc_Te_parse_160 : decode cd_Te_parse 160 = .ok (.if_icmp .ne 7, 3) := by decide +kernel
theorem dc_Te_parse_163 : decode cd_Te_parse 163 = .ok (.iconst (-1), 1) := by decide +kernel
theorem dc_Te_parse_164 : decode cd_Te_parse 164 = .ok (.goto 7, 3) := by decide +kernel
theorem dc_Te_parse_167 : decode cd_Te_parse 167 = .ok (.aload_n 0, 1) := by decide +kernel
theorem dc_Te_parse_168 : decode cd_Te_parse 168 = .ok (.getfield 19, 3) := by decide +kernel
theorem dc_Te_parse_171 : decode cd_Te_parse 171 = .ok (.ireturn, 1) := by decide +kernel
theorem dc_La_genes_0 : decode cd_La_genes 0 = .ok (.aload_n 0, 1) := by decide +kernel
theorem dc_La_genes_1 : decode cd_La_genes 1 = .ok (.iload_n 1, 1) := by decide +kernel
theorem dc_La_genes_2 : decode cd_La_genes 2 = .ok (.invokevirtual 7, 3) := by decide +kernel
theorem dc_La_genes_5 : decode cd_La_genes 5 = .ok (.goto 6, 3) := by decide +kernel
theorem dc_La_genes_8 : decode cd_La_genes 8 = .ok (.astore_n 2, 1) := by decide +kernel
theorem dc_La_genes_9 : decode cd_La_genes 9 = .ok (.iconst 1, 1) := by decide +kernel
theorem dc_La_genes_10 : decode cd_La_genes 10 = .ok (.ireturn, 1) := by decide +kernel
theorem dc_La_genes_11 : decode cd_La_genes 11 = .ok (.iconst 0, 1) := by decide +kernel
theorem dc_La_genes_12 : decode cd_La_genes 12 = .ok (.ireturn, 1) := by decide +kernel
theorem dc_La_read_0 : decode cd_La_read 0 = .ok (.aload_n 2, 1) := by decide +kernel
theorem dc_La_read_1 : decode cd_La_read 1 = .ok (.iconst 0, 1) := by decide +kernel
theorem dc_La_read_2 : decode cd_La_read 2 = .ok (.aload_n 0, 1) := by decide +kernel
theorem dc_La_read_3 : decode cd_La_read 3 = .ok (.iload_n 1, 1) := by decide +kernel
theorem dc_La_read_4 : decode cd_La_read 4 = .ok (.invokevirtual 15, 3) := by decide +kernel
theorem dc_La_read_7 : decode cd_La_read 7 = .ok (.i2l, 1) := by decide +kernel
theorem dc_La_read_8 : decode cd_La_read 8 = .ok (.lastore, 1) := by decide +kernel
theorem dc_La_read_9 : decode cd_La_read 9 = .ok (.goto 6, 3) := by decide +kernel
theorem dc_La_read_12 : decode cd_La_read 12 = .ok (.astore_n 3, 1) := by decide +kernel
theorem dc_La_read_13 : decode cd_La_read 13 = .ok (.iconst 1, 1) := by decide +kernel
theorem dc_La_read_14 : decode cd_La_read 14 = .ok (.ireturn, 1) := by decide +kernel
theorem dc_La_read_15 : decode cd_La_read 15 = .ok (.iconst 0, 1) := by decide +kernel
theorem dc_La_read_16 : decode cd_La_read 16 = .ok (.ireturn, 1) := by decide +kernel
theorem dc_La_gene_0 : decode cd_La_gene 0 = .ok (.aload_n 3, 1) := by decide +kernel
theorem dc_La_gene_1 : decode cd_La_gene 1 = .ok (.iconst 0, 1) := by decide +kernel
theorem dc_La_gene_2 : decode cd_La_gene 2 = .ok (.aload_n 0, 1) := by decide +kernel
theorem dc_La_gene_3 : decode cd_La_gene 3 = .ok (.iload_n 1, 1) := by decide +kernel
theorem dc_La_gene_4 : decode cd_La_gene 4 = .ok (.iload_n 2, 1) := by decide +kernel
theorem dc_La_gene_5 : decode cd_La_gene 5 = .ok (.invokevirtual 21, 3) := by decide +kernel
theorem dc_La_gene_8 : decode cd_La_gene 8 = .ok (.i2l, 1) := by decide +kernel
theorem dc_La_gene_9 : decode cd_La_gene 9 = .ok (.lastore, 1) := by decide +kernel
theorem dc_La_gene_10 : decode cd_La_gene 10 = .ok (.goto 7, 3) := by decide +kernel
theorem dc_La_gene_13 : decode cd_La_gene 13 = .ok (.astore 4, 2) := by decide +kernel
theorem dc_La_gene_15 : decode cd_La_gene 15 = .ok (.iconst 1, 1) := by decide +kernel
theorem dc_La_gene_16 : decode cd_La_gene 16 = .ok (.ireturn, 1) := by decide +kernel
theorem dc_La_gene_17 : decode cd_La_gene 17 = .ok (.iconst 0, 1) := by decide +kernel
theorem dc_La_gene_18 : decode cd_La_gene 18 = .ok (.ireturn, 1) := by decide +kernel
theorem dc_La_copy_0 : decode cd_La_copy 0 = .ok (.aload_n 0, 1) := by decide +kernel
theorem dc_La_copy_1 : decode cd_La_copy 1 = .ok (.iload_n 1, 1) := by decide +kernel
theorem dc_La_copy_2 : decode cd_La_copy 2 = .ok (.iload_n 2, 1) := by decide +kernel
theorem dc_La_copy_3 : decode cd_La_copy 3 = .ok (.invokevirtual 25, 3) := by decide +kernel
theorem dc_La_copy_6 : decode cd_La_copy 6 = .ok (.goto 6, 3) := by decide +kernel
theorem dc_La_copy_9 : decode cd_La_copy 9 = .ok (.astore_n 3, 1) := by decide +kernel
theorem dc_La_copy_10 : decode cd_La_copy 10 = .ok (.iconst 1, 1) := by decide +kernel
theorem dc_La_copy_11 : decode cd_La_copy 11 = .ok (.ireturn, 1) := by decide +kernel
theorem dc_La_copy_12 : decode cd_La_copy 12 = .ok (.iconst 0, 1) := by decide +kernel
theorem dc_La_copy_13 : decode cd_La_copy 13 = .ok (.ireturn, 1) := by decide +kernel
theorem dc_La_reverse_0 : decode cd_La_reverse 0 = .ok (.aload_n 0, 1) := by decide +kernel
theorem dc_La_reverse_1 : decode cd_La_reverse 1 = .ok (.iload_n 1, 1) := by decide +kernel
theorem dc_La_reverse_2 : decode cd_La_reverse 2 = .ok (.iload_n 2, 1) := by decide +kernel
theorem dc_La_reverse_3 : decode cd_La_reverse 3 = .ok (.iload_n 3, 1) := by decide +kernel
theorem dc_La_reverse_4 : decode cd_La_reverse 4 = .ok (.invokevirtual 29, 3) := by decide +kernel
theorem dc_La_reverse_7 : decode cd_La_reverse 7 = .ok (.goto 7, 3) := by decide +kernel
theorem dc_La_reverse_10 : decode cd_La_reverse 10 = .ok (.astore 4, 2) := by decide +kernel
theorem dc_La_reverse_12 : decode cd_La_reverse 12 = .ok (.iconst 1, 1) := by decide +kernel
theorem dc_La_reverse_13 : decode cd_La_reverse 13 = .ok (.ireturn, 1) := by decide +kernel
theorem dc_La_reverse_14 : decode cd_La_reverse 14 = .ok (.iconst 0, 1) := by decide +kernel
theorem dc_La_reverse_15 : decode cd_La_reverse 15 = .ok (.ireturn, 1) := by decide +kernel
theorem dc_La_undo_0 : decode cd_La_undo 0 = .ok (.aload_n 2, 1) := by decide +kernel
theorem dc_La_undo_1 : decode cd_La_undo 1 = .ok (.iconst 0, 1) := by decide +kernel
theorem dc_La_undo_2 : decode cd_La_undo 2 = .ok (.aload_n 0, 1) := by decide +kernel
theorem dc_La_undo_3 : decode cd_La_undo 3 = .ok (.iload_n 1, 1) := by decide +kernel
theorem dc_La_undo_4 : decode cd_La_undo 4 = .ok (.invokevirtual 33, 3) := by decide +kernel
theorem dc_La_undo_7 : decode cd_La_undo 7 = .ok (.ifCond .eq 7, 3) := by decide +kernel
theorem dc_La_undo_10 : decode cd_La_undo 10 = .ok (.lconst 1, 1) := by decide +kernel
theorem dc_La_undo_11 : decode cd_La_undo 11 = .ok (.goto 4, 3) := by decide +kernel
theorem dc_La_undo_14 : decode cd_La_undo 14 = .ok (.lconst 0, 1) := by decide +kernel
theorem dc_La_undo_15 : decode cd_La_undo 15 = .ok (.lastore, 1) := by decide +kernel
theorem dc_La_undo_16 : decode cd_La_undo 16 = .ok (.goto 6, 3) := by decide +kernel
theorem dc_La_undo_19 : decode cd_La_undo 19 = .ok (.astore_n 3, 1) := by decide +kernel
theorem dc_La_undo_20 : decode cd_La_undo 20 = .ok (.iconst 1, 1) := by decide +kernel
theorem dc_La_undo_21 : decode cd_La_undo 21 = .ok (.ireturn, 1) := by decide +kernel
theorem dc_La_undo_22 : decode cd_La_undo 22 = .ok (.iconst 0, 1) := by decide +kernel
theorem dc_La_undo_23 : decode cd_La_undo 23 = .ok (.ireturn, 1) := by decide +kernel
theorem dc_La_distance_0 : decode cd_La_distance 0 = .ok (.aload_n 3, 1) := by decide +kernel
theorem dc_La_distance_1 : decode cd_La_distance 1 = .ok (.iconst 0, 1) := by decide +kernel
theorem dc_La_distance_2 : decode cd_La_distance 2 = .ok (.aload_n 0, 1) := by decide +kernel
theorem dc_La_distance_3 : decode cd_La_distance 3 = .ok (.iload_n 1, 1) := by decide +kernel
theorem dc_La_distance_4 : decode cd_La_distance 4 = .ok (.iload_n 2, 1) := by decide +kernel
theorem dc_La_distance_5 : decode cd_La_distance 5 = .ok (.invokevirtual 37, 3) := by decide +kernel
theorem dc_La_distance_8 : decode cd_La_distance 8 = .ok (.i2l, 1) := by decide +kernel
theorem dc_La_distance_9 : decode cd_La_distance 9 = .ok (.lastore, 1) := by decide +kernel
theorem dc_La_distance_10 : decode cd_La_distance 10 = .ok (.goto 7, 3) := by decide +kernel
theorem dc_La_distance_13 : decode cd_La_distance 13 = .ok (.astore 4, 2) := by decide +kernel
theorem dc_La_distance_15 : decode cd_La_distance 15 = .ok (.iconst 1, 1) := by decide +kernel
theorem dc_La_distance_16 : decode cd_La_distance 16 = .ok (.ireturn, 1) := by decide +kernel
theorem dc_La_distance_17 : decode cd_La_distance 17 = .ok (.iconst 0, 1) := by decide +kernel
theorem dc_La_distance_18 : decode cd_La_distance 18 = .ok (.ireturn, 1) := by decide +kernel
theorem dc_La_drawing_0 : decode cd_La_drawing 0 = .ok (.aload 4, 2) := by decide +kernel
theorem dc_La_drawing_2 : decode cd_La_drawing 2 = .ok (.iconst 0, 1) := by decide +kernel
theorem dc_La_drawing_3 : decode cd_La_drawing 3 = .ok (.aload_n 0, 1) := by decide +kernel
theorem dc_La_drawing_4 : decode cd_La_drawing 4 = .ok (.iload_n 1, 1) := by decide +kernel
theorem dc_La_drawing_5 : decode cd_La_drawing 5 = .ok (.iload_n 2, 1) := by decide +kernel
theorem dc_La_drawing_6 : decode cd_La_drawing 6 = .ok (.iload_n 3, 1) := by decide +kernel
theorem dc_La_drawing_7 : decode cd_La_drawing 7 = .ok (.invokevirtual 40, 3) := by decide +kernel
theorem dc_La_drawing_10 : decode cd_La_drawing 10 = .ok (.i2l, 1) := by decide +kernel
theorem dc_La_drawing_11 : decode cd_La_drawing 11 = .ok (.lastore, 1) := by decide +kernel
theorem dc_La_drawing_12 : decode cd_La_drawing 12 = .ok (.goto 11, 3) := by decide +kernel
theorem dc_La_drawing_15 : decode cd_La_drawing 15 = .ok (.astore 5, 2) := by decide +kernel
theorem dc_La_drawing_17 : decode cd_La_drawing 17 = .ok (.iconst 1, 1) := by decide +kernel
theorem dc_La_drawing_18 : decode cd_La_drawing 18 = .ok (.ireturn, 1) := by decide +kernel
theorem dc_La_drawing_19 : decode cd_La_drawing 19 = .ok (.astore 5, 2) := by decide +kernel
theorem dc_La_drawing_21 : decode cd_La_drawing 21 = .ok (.iconst 2, 1) := by decide +kernel
theorem dc_La_drawing_22 : decode cd_La_drawing 22 = .ok (.ireturn, 1) := by decide +kernel
theorem dc_La_drawing_23 : decode cd_La_drawing 23 = .ok (.iconst 0, 1) := by decide +kernel
theorem dc_La_drawing_24 : decode cd_La_drawing 24 = .ok (.ireturn, 1) := by decide +kernel
