def dl_De_turnNearer_0 : List (Nat × Instr × Nat) := [(0, .iconst 0, 1), (1, .istore_n 2, 1), (2, .iload_n 2, 1), (3, .aload_n 0, 1), (4, .getfield 9, 3), (7, .if_icmp .ge 76, 3), (10, .iload_n 2, 1), (11, .istore_n 3, 1), (12, .iload_n 3, 1), (13, .aload_n 0, 1), (14, .getfield 9, 3), (17, .if_icmp .ge 60, 3), (20, .aload_n 0, 1), (21, .getfield 50, 3), (24, .iload_n 2, 1), (25, .iload_n 3, 1), (26, .invokestatic 199, 3), (29, .aload_n 0, 1), (30, .getfield 30, 3), (33, .aload_n 0, 1), (34, .getfield 50, 3), (37, .aload_n 0, 1), (38, .getfield 9, 3), (41, .invokevirtual 195, 3), (44, .aload_n 0, 1), (45, .getfield 30, 3), (48, .invokevirtual 110, 3), (51, .iload_n 1, 1), (52, .if_icmp .ne 10, 3), (55, .bipush 10, 2), (57, .iload_n 2, 1), (58, .imul, 1), (59, .iload_n 3, 1), (60, .iadd, 1), (61, .ireturn, 1), (62, .aload_n 0, 1), (63, .getfield 50, 3), (66, .iload_n 2, 1), (67, .iload_n 3, 1), (68, .invokestatic 199, 3), (71, .iinc 3 1, 3), (74, .goto (-62), 3), (77, .iinc 2 1, 3), (80, .goto (-78), 3), (83, .iconst (-1), 1), (84, .ireturn, 1)]
theorem dm_De_turnNearer_0 : dl_De_turnNearer_0.all (fun q => decide (decode cd_De_turnNearer q.1 = .ok (q.2.1, q.2.2))) = true := by decide +kernel
theorem dc_De_turnNearer_0 : decode cd_De_turnNearer 0 = .ok (.iconst 0, 1) := dq_at (q := (0, .iconst 0, 1)) dm_De_turnNearer_0 0 rfl
theorem dc_De_turnNearer_1 : decode cd_De_turnNearer 1 = .ok (.istore_n 2, 1) := dq_at (q := (1, .istore_n 2, 1)) dm_De_turnNearer_0 1 rfl
theorem dc_De_turnNearer_2 : decode cd_De_turnNearer 2 = .ok (.iload_n 2, 1) := dq_at (q := (2, .iload_n 2, 1)) dm_De_turnNearer_0 2 rfl
theorem dc_De_turnNearer_3 : decode cd_De_turnNearer 3 = .ok (.aload_n 0, 1) := dq_at (q := (3, .aload_n 0, 1)) dm_De_turnNearer_0 3 rfl
theorem dc_De_turnNearer_4 : decode cd_De_turnNearer 4 = .ok (.getfield 9, 3) := dq_at (q := (4, .getfield 9, 3)) dm_De_turnNearer_0 4 rfl
theorem dc_De_turnNearer_7 : decode cd_De_turnNearer 7 = .ok (.if_icmp .ge 76, 3) := dq_at (q := (7, .if_icmp .ge 76, 3)) dm_De_turnNearer_0 5 rfl
theorem dc_De_turnNearer_10 : decode cd_De_turnNearer 10 = .ok (.iload_n 2, 1) := dq_at (q := (10, .iload_n 2, 1)) dm_De_turnNearer_0 6 rfl
theorem dc_De_turnNearer_11 : decode cd_De_turnNearer 11 = .ok (.istore_n 3, 1) := dq_at (q := (11, .istore_n 3, 1)) dm_De_turnNearer_0 7 rfl
theorem dc_De_turnNearer_12 : decode cd_De_turnNearer 12 = .ok (.iload_n 3, 1) := dq_at (q := (12, .iload_n 3, 1)) dm_De_turnNearer_0 8 rfl
theorem dc_De_turnNearer_13 : decode cd_De_turnNearer 13 = .ok (.aload_n 0, 1) := dq_at (q := (13, .aload_n 0, 1)) dm_De_turnNearer_0 9 rfl
theorem dc_De_turnNearer_14 : decode cd_De_turnNearer 14 = .ok (.getfield 9, 3) := dq_at (q := (14, .getfield 9, 3)) dm_De_turnNearer_0 10 rfl
theorem dc_De_turnNearer_17 : decode cd_De_turnNearer 17 = .ok (.if_icmp .ge 60, 3) := dq_at (q := (17, .if_icmp .ge 60, 3)) dm_De_turnNearer_0 11 rfl
theorem dc_De_turnNearer_20 : decode cd_De_turnNearer 20 = .ok (.aload_n 0, 1) := dq_at (q := (20, .aload_n 0, 1)) dm_De_turnNearer_0 12 rfl
theorem dc_De_turnNearer_21 : decode cd_De_turnNearer 21 = .ok (.getfield 50, 3) := dq_at (q := (21, .getfield 50, 3)) dm_De_turnNearer_0 13 rfl
theorem dc_De_turnNearer_24 : decode cd_De_turnNearer 24 = .ok (.iload_n 2, 1) := dq_at (q := (24, .iload_n 2, 1)) dm_De_turnNearer_0 14 rfl
theorem dc_De_turnNearer_25 : decode cd_De_turnNearer 25 = .ok (.iload_n 3, 1) := dq_at (q := (25, .iload_n 3, 1)) dm_De_turnNearer_0 15 rfl
theorem dc_De_turnNearer_26 : decode cd_De_turnNearer 26 = .ok (.invokestatic 199, 3) := dq_at (q := (26, .invokestatic 199, 3)) dm_De_turnNearer_0 16 rfl
theorem dc_De_turnNearer_29 : decode cd_De_turnNearer 29 = .ok (.aload_n 0, 1) := dq_at (q := (29, .aload_n 0, 1)) dm_De_turnNearer_0 17 rfl
theorem dc_De_turnNearer_30 : decode cd_De_turnNearer 30 = .ok (.getfield 30, 3) := dq_at (q := (30, .getfield 30, 3)) dm_De_turnNearer_0 18 rfl
theorem dc_De_turnNearer_33 : decode cd_De_turnNearer 33 = .ok (.aload_n 0, 1) := dq_at (q := (33, .aload_n 0, 1)) dm_De_turnNearer_0 19 rfl
theorem dc_De_turnNearer_34 : decode cd_De_turnNearer 34 = .ok (.getfield 50, 3) := dq_at (q := (34, .getfield 50, 3)) dm_De_turnNearer_0 20 rfl
theorem dc_De_turnNearer_37 : decode cd_De_turnNearer 37 = .ok (.aload_n 0, 1) := dq_at (q := (37, .aload_n 0, 1)) dm_De_turnNearer_0 21 rfl
theorem dc_De_turnNearer_38 : decode cd_De_turnNearer 38 = .ok (.getfield 9, 3) := dq_at (q := (38, .getfield 9, 3)) dm_De_turnNearer_0 22 rfl
theorem dc_De_turnNearer_41 : decode cd_De_turnNearer 41 = .ok (.invokevirtual 195, 3) := dq_at (q := (41, .invokevirtual 195, 3)) dm_De_turnNearer_0 23 rfl
theorem dc_De_turnNearer_44 : decode cd_De_turnNearer 44 = .ok (.aload_n 0, 1) := dq_at (q := (44, .aload_n 0, 1)) dm_De_turnNearer_0 24 rfl
theorem dc_De_turnNearer_45 : decode cd_De_turnNearer 45 = .ok (.getfield 30, 3) := dq_at (q := (45, .getfield 30, 3)) dm_De_turnNearer_0 25 rfl
theorem dc_De_turnNearer_48 : decode cd_De_turnNearer 48 = .ok (.invokevirtual 110, 3) := dq_at (q := (48, .invokevirtual 110, 3)) dm_De_turnNearer_0 26 rfl
theorem dc_De_turnNearer_51 : decode cd_De_turnNearer 51 = .ok (.iload_n 1, 1) := dq_at (q := (51, .iload_n 1, 1)) dm_De_turnNearer_0 27 rfl
theorem dc_De_turnNearer_52 : decode cd_De_turnNearer 52 = .ok (.if_icmp .ne 10, 3) := dq_at (q := (52, .if_icmp .ne 10, 3)) dm_De_turnNearer_0 28 rfl
theorem dc_De_turnNearer_55 : decode cd_De_turnNearer 55 = .ok (.bipush 10, 2) := dq_at (q := (55, .bipush 10, 2)) dm_De_turnNearer_0 29 rfl
theorem dc_De_turnNearer_57 : decode cd_De_turnNearer 57 = .ok (.iload_n 2, 1) := dq_at (q := (57, .iload_n 2, 1)) dm_De_turnNearer_0 30 rfl
theorem dc_De_turnNearer_58 : decode cd_De_turnNearer 58 = .ok (.imul, 1) := dq_at (q := (58, .imul, 1)) dm_De_turnNearer_0 31 rfl
theorem dc_De_turnNearer_59 : decode cd_De_turnNearer 59 = .ok (.iload_n 3, 1) := dq_at (q := (59, .iload_n 3, 1)) dm_De_turnNearer_0 32 rfl
theorem dc_De_turnNearer_60 : decode cd_De_turnNearer 60 = .ok (.iadd, 1) := dq_at (q := (60, .iadd, 1)) dm_De_turnNearer_0 33 rfl
theorem dc_De_turnNearer_61 : decode cd_De_turnNearer 61 = .ok (.ireturn, 1) := dq_at (q := (61, .ireturn, 1)) dm_De_turnNearer_0 34 rfl
theorem dc_De_turnNearer_62 : decode cd_De_turnNearer 62 = .ok (.aload_n 0, 1) := dq_at (q := (62, .aload_n 0, 1)) dm_De_turnNearer_0 35 rfl
theorem dc_De_turnNearer_63 : decode cd_De_turnNearer 63 = .ok (.getfield 50, 3) := dq_at (q := (63, .getfield 50, 3)) dm_De_turnNearer_0 36 rfl
theorem dc_De_turnNearer_66 : decode cd_De_turnNearer 66 = .ok (.iload_n 2, 1) := dq_at (q := (66, .iload_n 2, 1)) dm_De_turnNearer_0 37 rfl
theorem dc_De_turnNearer_67 : decode cd_De_turnNearer 67 = .ok (.iload_n 3, 1) := dq_at (q := (67, .iload_n 3, 1)) dm_De_turnNearer_0 38 rfl
theorem dc_De_turnNearer_68 : decode cd_De_turnNearer 68 = .ok (.invokestatic 199, 3) := dq_at (q := (68, .invokestatic 199, 3)) dm_De_turnNearer_0 39 rfl
theorem dc_De_turnNearer_71 : decode cd_De_turnNearer 71 = .ok (.iinc 3 1, 3) := dq_at (q := (71, .iinc 3 1, 3)) dm_De_turnNearer_0 40 rfl
theorem dc_De_turnNearer_74 : decode cd_De_turnNearer 74 = .ok (.goto (-62), 3) := dq_at (q := (74, .goto (-62), 3)) dm_De_turnNearer_0 41 rfl
theorem dc_De_turnNearer_77 : decode cd_De_turnNearer 77 = .ok (.iinc 2 1, 3) := dq_at (q := (77, .iinc 2 1, 3)) dm_De_turnNearer_0 42 rfl
theorem dc_De_turnNearer_80 : decode cd_De_turnNearer 80 = .ok (.goto (-78), 3) := dq_at (q := (80, .goto (-78), 3)) dm_De_turnNearer_0 43 rfl
theorem dc_De_turnNearer_83 : decode cd_De_turnNearer 83 = .ok (.iconst (-1), 1) := dq_at (q := (83, .iconst (-1), 1)) dm_De_turnNearer_0 44 rfl
theorem dc_De_turnNearer_84 : decode cd_De_turnNearer 84 = .ok (.ireturn, 1) := dq_at (q := (84, .ireturn, 1)) dm_De_turnNearer_0 45 rfl
def dl_De_chartNow_0 : List (Nat × Instr × Nat) := [(0, .aload_n 0, 1), (1, .getfield 9, 3), (4, .iconst 4, 1), (5, .if_icmp .le 13, 3), (8, .new 203, 3), (11, .dup, 1), (12, .ldc 205, 2), (14, .invokespecial 207, 3), (17, .athrow, 1), (18, .aload_n 0, 1), (19, .getfield 36, 3), (22, .aload_n 0, 1), (23, .getfield 9, 3), (26, .aaload, 1), (27, .ifnonnull 39, 3), (30, .aload_n 0, 1), (31, .getfield 36, 3), (34, .aload_n 0, 1), (35, .getfield 9, 3), (38, .new 34, 3), (41, .dup, 1), (42, .aload_n 0, 1), (43, .getfield 9, 3), (46, .invokespecial 208, 3), (49, .aastore, 1), (50, .aload_n 0, 1), (51, .getfield 36, 3), (54, .aload_n 0, 1), (55, .getfield 9, 3), (58, .aaload, 1), (59, .aload_n 0, 1), (60, .getfield 30, 3), (63, .invokevirtual 210, 3), (66, .aload_n 0, 1), (67, .getfield 36, 3), (70, .aload_n 0, 1), (71, .getfield 9, 3), (74, .aaload, 1), (75, .areturn, 1)]
theorem dm_De_chartNow_0 : dl_De_chartNow_0.all (fun q => decide (decode cd_De_chartNow q.1 = .ok (q.2.1, q.2.2))) = true := by decide +kernel
theorem dc_De_chartNow_0 : decode cd_De_chartNow 0 = .ok (.aload_n 0, 1) := dq_at (q := (0, .aload_n 0, 1)) dm_De_chartNow_0 0 rfl
theorem dc_De_chartNow_1 : decode cd_De_chartNow 1 = .ok (.getfield 9, 3) := dq_at (q := (1, .getfield 9, 3)) dm_De_chartNow_0 1 rfl
theorem dc_De_chartNow_4 : decode cd_De_chartNow 4 = .ok (.iconst 4, 1) := dq_at (q := (4, .iconst 4, 1)) dm_De_chartNow_0 2 rfl
theorem dc_De_chartNow_5 : decode cd_De_chartNow 5 = .ok (.if_icmp .le 13, 3) := dq_at (q := (5, .if_icmp .le 13, 3)) dm_De_chartNow_0 3 rfl
theorem dc_De_chartNow_8 : decode cd_De_chartNow 8 = .ok (.new 203, 3) := dq_at (q := (8, .new 203, 3)) dm_De_chartNow_0 4 rfl
theorem dc_De_chartNow_11 : decode cd_De_chartNow 11 = .ok (.dup, 1) := dq_at (q := (11, .dup, 1)) dm_De_chartNow_0 5 rfl
theorem dc_De_chartNow_12 : decode cd_De_chartNow 12 = .ok (.ldc 205, 2) := dq_at (q := (12, .ldc 205, 2)) dm_De_chartNow_0 6 rfl
theorem dc_De_chartNow_14 : decode cd_De_chartNow 14 = .ok (.invokespecial 207, 3) := dq_at (q := (14, .invokespecial 207, 3)) dm_De_chartNow_0 7 rfl
theorem dc_De_chartNow_17 : decode cd_De_chartNow 17 = .ok (.athrow, 1) := dq_at (q := (17, .athrow, 1)) dm_De_chartNow_0 8 rfl
theorem dc_De_chartNow_18 : decode cd_De_chartNow 18 = .ok (.aload_n 0, 1) := dq_at (q := (18, .aload_n 0, 1)) dm_De_chartNow_0 9 rfl
theorem dc_De_chartNow_19 : decode cd_De_chartNow 19 = .ok (.getfield 36, 3) := dq_at (q := (19, .getfield 36, 3)) dm_De_chartNow_0 10 rfl
theorem dc_De_chartNow_22 : decode cd_De_chartNow 22 = .ok (.aload_n 0, 1) := dq_at (q := (22, .aload_n 0, 1)) dm_De_chartNow_0 11 rfl
theorem dc_De_chartNow_23 : decode cd_De_chartNow 23 = .ok (.getfield 9, 3) := dq_at (q := (23, .getfield 9, 3)) dm_De_chartNow_0 12 rfl
theorem dc_De_chartNow_26 : decode cd_De_chartNow 26 = .ok (.aaload, 1) := dq_at (q := (26, .aaload, 1)) dm_De_chartNow_0 13 rfl
theorem dc_De_chartNow_27 : decode cd_De_chartNow 27 = .ok (.ifnonnull 39, 3) := dq_at (q := (27, .ifnonnull 39, 3)) dm_De_chartNow_0 14 rfl
theorem dc_De_chartNow_30 : decode cd_De_chartNow 30 = .ok (.aload_n 0, 1) := dq_at (q := (30, .aload_n 0, 1)) dm_De_chartNow_0 15 rfl
theorem dc_De_chartNow_31 : decode cd_De_chartNow 31 = .ok (.getfield 36, 3) := dq_at (q := (31, .getfield 36, 3)) dm_De_chartNow_0 16 rfl
theorem dc_De_chartNow_34 : decode cd_De_chartNow 34 = .ok (.aload_n 0, 1) := dq_at (q := (34, .aload_n 0, 1)) dm_De_chartNow_0 17 rfl
theorem dc_De_chartNow_35 : decode cd_De_chartNow 35 = .ok (.getfield 9, 3) := dq_at (q := (35, .getfield 9, 3)) dm_De_chartNow_0 18 rfl
theorem dc_De_chartNow_38 : decode cd_De_chartNow 38 = .ok (.new 34, 3) := dq_at (q := (38, .new 34, 3)) dm_De_chartNow_0 19 rfl
theorem dc_De_chartNow_41 : decode cd_De_chartNow 41 = .ok (.dup, 1) := dq_at (q := (41, .dup, 1)) dm_De_chartNow_0 20 rfl
theorem dc_De_chartNow_42 : decode cd_De_chartNow 42 = .ok (.aload_n 0, 1) := dq_at (q := (42, .aload_n 0, 1)) dm_De_chartNow_0 21 rfl
theorem dc_De_chartNow_43 : decode cd_De_chartNow 43 = .ok (.getfield 9, 3) := dq_at (q := (43, .getfield 9, 3)) dm_De_chartNow_0 22 rfl
theorem dc_De_chartNow_46 : decode cd_De_chartNow 46 = .ok (.invokespecial 208, 3) := dq_at (q := (46, .invokespecial 208, 3)) dm_De_chartNow_0 23 rfl
theorem dc_De_chartNow_49 : decode cd_De_chartNow 49 = .ok (.aastore, 1) := dq_at (q := (49, .aastore, 1)) dm_De_chartNow_0 24 rfl
theorem dc_De_chartNow_50 : decode cd_De_chartNow 50 = .ok (.aload_n 0, 1) := dq_at (q := (50, .aload_n 0, 1)) dm_De_chartNow_0 25 rfl
theorem dc_De_chartNow_51 : decode cd_De_chartNow 51 = .ok (.getfield 36, 3) := dq_at (q := (51, .getfield 36, 3)) dm_De_chartNow_0 26 rfl
theorem dc_De_chartNow_54 : decode cd_De_chartNow 54 = .ok (.aload_n 0, 1) := dq_at (q := (54, .aload_n 0, 1)) dm_De_chartNow_0 27 rfl
theorem dc_De_chartNow_55 : decode cd_De_chartNow 55 = .ok (.getfield 9, 3) := dq_at (q := (55, .getfield 9, 3)) dm_De_chartNow_0 28 rfl
theorem dc_De_chartNow_58 : decode cd_De_chartNow 58 = .ok (.aaload, 1) := dq_at (q := (58, .aaload, 1)) dm_De_chartNow_0 29 rfl
theorem dc_De_chartNow_59 : decode cd_De_chartNow 59 = .ok (.aload_n 0, 1) := dq_at (q := (59, .aload_n 0, 1)) dm_De_chartNow_0 30 rfl
theorem dc_De_chartNow_60 : decode cd_De_chartNow 60 = .ok (.getfield 30, 3) := dq_at (q := (60, .getfield 30, 3)) dm_De_chartNow_0 31 rfl
theorem dc_De_chartNow_63 : decode cd_De_chartNow 63 = .ok (.invokevirtual 210, 3) := dq_at (q := (63, .invokevirtual 210, 3)) dm_De_chartNow_0 32 rfl
theorem dc_De_chartNow_66 : decode cd_De_chartNow 66 = .ok (.aload_n 0, 1) := dq_at (q := (66, .aload_n 0, 1)) dm_De_chartNow_0 33 rfl
theorem dc_De_chartNow_67 : decode cd_De_chartNow 67 = .ok (.getfield 36, 3) := dq_at (q := (67, .getfield 36, 3)) dm_De_chartNow_0 34 rfl
theorem dc_De_chartNow_70 : decode cd_De_chartNow 70 = .ok (.aload_n 0, 1) := dq_at (q := (70, .aload_n 0, 1)) dm_De_chartNow_0 35 rfl
theorem dc_De_chartNow_71 : decode cd_De_chartNow 71 = .ok (.getfield 9, 3) := dq_at (q := (71, .getfield 9, 3)) dm_De_chartNow_0 36 rfl
theorem dc_De_chartNow_74 : decode cd_De_chartNow 74 = .ok (.aaload, 1) := dq_at (q := (74, .aaload, 1)) dm_De_chartNow_0 37 rfl
theorem dc_De_chartNow_75 : decode cd_De_chartNow 75 = .ok (.areturn, 1) := dq_at (q := (75, .areturn, 1)) dm_De_chartNow_0 38 rfl
def dl_De_triedTo_0 : List (Nat × Instr × Nat) := [(0, .aload_n 0, 1), (1, .aload_n 0, 1), (2, .getfield 53, 3), (5, .aload_n 0, 1), (6, .getfield 15, 3), (9, .iload_n 1, 1), (10, .aaload, 1), (11, .getfield 91, 3), (14, .invokevirtual 141, 3), (17, .aload_n 2, 1), (18, .getfield 214, 3), (21, .aload_n 2, 1), (22, .aload_n 0, 1), (23, .getfield 50, 3), (26, .invokevirtual 217, 3), (29, .iaload, 1), (30, .ireturn, 1)]
theorem dm_De_triedTo_0 : dl_De_triedTo_0.all (fun q => decide (decode cd_De_triedTo q.1 = .ok (q.2.1, q.2.2))) = true := by decide +kernel
theorem dc_De_triedTo_0 : decode cd_De_triedTo 0 = .ok (.aload_n 0, 1) := dq_at (q := (0, .aload_n 0, 1)) dm_De_triedTo_0 0 rfl
theorem dc_De_triedTo_1 : decode cd_De_triedTo 1 = .ok (.aload_n 0, 1) := dq_at (q := (1, .aload_n 0, 1)) dm_De_triedTo_0 1 rfl
theorem dc_De_triedTo_2 : decode cd_De_triedTo 2 = .ok (.getfield 53, 3) := dq_at (q := (2, .getfield 53, 3)) dm_De_triedTo_0 2 rfl
theorem dc_De_triedTo_5 : decode cd_De_triedTo 5 = .ok (.aload_n 0, 1) := dq_at (q := (5, .aload_n 0, 1)) dm_De_triedTo_0 3 rfl
theorem dc_De_triedTo_6 : decode cd_De_triedTo 6 = .ok (.getfield 15, 3) := dq_at (q := (6, .getfield 15, 3)) dm_De_triedTo_0 4 rfl
theorem dc_De_triedTo_9 : decode cd_De_triedTo 9 = .ok (.iload_n 1, 1) := dq_at (q := (9, .iload_n 1, 1)) dm_De_triedTo_0 5 rfl
theorem dc_De_triedTo_10 : decode cd_De_triedTo 10 = .ok (.aaload, 1) := dq_at (q := (10, .aaload, 1)) dm_De_triedTo_0 6 rfl
theorem dc_De_triedTo_11 : decode cd_De_triedTo 11 = .ok (.getfield 91, 3) := dq_at (q := (11, .getfield 91, 3)) dm_De_triedTo_0 7 rfl
theorem dc_De_triedTo_14 : decode cd_De_triedTo 14 = .ok (.invokevirtual 141, 3) := dq_at (q := (14, .invokevirtual 141, 3)) dm_De_triedTo_0 8 rfl
theorem dc_De_triedTo_17 : decode cd_De_triedTo 17 = .ok (.aload_n 2, 1) := dq_at (q := (17, .aload_n 2, 1)) dm_De_triedTo_0 9 rfl
theorem dc_De_triedTo_18 : decode cd_De_triedTo 18 = .ok (.getfield 214, 3) := dq_at (q := (18, .getfield 214, 3)) dm_De_triedTo_0 10 rfl
theorem dc_De_triedTo_21 : decode cd_De_triedTo 21 = .ok (.aload_n 2, 1) := dq_at (q := (21, .aload_n 2, 1)) dm_De_triedTo_0 11 rfl
theorem dc_De_triedTo_22 : decode cd_De_triedTo 22 = .ok (.aload_n 0, 1) := dq_at (q := (22, .aload_n 0, 1)) dm_De_triedTo_0 12 rfl
theorem dc_De_triedTo_23 : decode cd_De_triedTo 23 = .ok (.getfield 50, 3) := dq_at (q := (23, .getfield 50, 3)) dm_De_triedTo_0 13 rfl
theorem dc_De_triedTo_26 : decode cd_De_triedTo 26 = .ok (.invokevirtual 217, 3) := dq_at (q := (26, .invokevirtual 217, 3)) dm_De_triedTo_0 14 rfl
theorem dc_De_triedTo_29 : decode cd_De_triedTo 29 = .ok (.iaload, 1) := dq_at (q := (29, .iaload, 1)) dm_De_triedTo_0 15 rfl
theorem dc_De_triedTo_30 : decode cd_De_triedTo 30 = .ok (.ireturn, 1) := dq_at (q := (30, .ireturn, 1)) dm_De_triedTo_0 16 rfl
def dl_De_turn_0 : List (Nat × Instr × Nat) := [(0, .iload_n 1, 1), (1, .istore_n 3, 1), (2, .iload_n 2, 1), (3, .istore 4, 2), (5, .iload_n 3, 1), (6, .iload 4, 2), (8, .if_icmp .gt 32, 3), (11, .aload_n 0, 1), (12, .iload_n 3, 1), (13, .iaload, 1), (14, .istore 5, 2), (16, .aload_n 0, 1), (17, .iload_n 3, 1), (18, .aload_n 0, 1), (19, .iload 4, 2), (21, .iaload, 1), (22, .ineg, 1), (23, .iastore, 1), (24, .aload_n 0, 1), (25, .iload 4, 2), (27, .iload 5, 2), (29, .ineg, 1), (30, .iastore, 1), (31, .iinc 3 1, 3), (34, .iinc 4 (-1), 3), (37, .goto (-32), 3), (40, .return_, 1)]
theorem dm_De_turn_0 : dl_De_turn_0.all (fun q => decide (decode cd_De_turn q.1 = .ok (q.2.1, q.2.2))) = true := by decide +kernel
theorem dc_De_turn_0 : decode cd_De_turn 0 = .ok (.iload_n 1, 1) := dq_at (q := (0, .iload_n 1, 1)) dm_De_turn_0 0 rfl
theorem dc_De_turn_1 : decode cd_De_turn 1 = .ok (.istore_n 3, 1) := dq_at (q := (1, .istore_n 3, 1)) dm_De_turn_0 1 rfl
theorem dc_De_turn_2 : decode cd_De_turn 2 = .ok (.iload_n 2, 1) := dq_at (q := (2, .iload_n 2, 1)) dm_De_turn_0 2 rfl
theorem dc_De_turn_3 : decode cd_De_turn 3 = .ok (.istore 4, 2) := dq_at (q := (3, .istore 4, 2)) dm_De_turn_0 3 rfl
theorem dc_De_turn_5 : decode cd_De_turn 5 = .ok (.iload_n 3, 1) := dq_at (q := (5, .iload_n 3, 1)) dm_De_turn_0 4 rfl
theorem dc_De_turn_6 : decode cd_De_turn 6 = .ok (.iload 4, 2) := dq_at (q := (6, .iload 4, 2)) dm_De_turn_0 5 rfl
theorem dc_De_turn_8 : decode cd_De_turn 8 = .ok (.if_icmp .gt 32, 3) := dq_at (q := (8, .if_icmp .gt 32, 3)) dm_De_turn_0 6 rfl
theorem dc_De_turn_11 : decode cd_De_turn 11 = .ok (.aload_n 0, 1) := dq_at (q := (11, .aload_n 0, 1)) dm_De_turn_0 7 rfl
theorem dc_De_turn_12 : decode cd_De_turn 12 = .ok (.iload_n 3, 1) := dq_at (q := (12, .iload_n 3, 1)) dm_De_turn_0 8 rfl
theorem dc_De_turn_13 : decode cd_De_turn 13 = .ok (.iaload, 1) := dq_at (q := (13, .iaload, 1)) dm_De_turn_0 9 rfl
theorem dc_De_turn_14 : decode cd_De_turn 14 = .ok (.istore 5, 2) := dq_at (q := (14, .istore 5, 2)) dm_De_turn_0 10 rfl
theorem dc_De_turn_16 : decode cd_De_turn 16 = .ok (.aload_n 0, 1) := dq_at (q := (16, .aload_n 0, 1)) dm_De_turn_0 11 rfl
theorem dc_De_turn_17 : decode cd_De_turn 17 = .ok (.iload_n 3, 1) := dq_at (q := (17, .iload_n 3, 1)) dm_De_turn_0 12 rfl
theorem dc_De_turn_18 : decode cd_De_turn 18 = .ok (.aload_n 0, 1) := dq_at (q := (18, .aload_n 0, 1)) dm_De_turn_0 13 rfl
theorem dc_De_turn_19 : decode cd_De_turn 19 = .ok (.iload 4, 2) := dq_at (q := (19, .iload 4, 2)) dm_De_turn_0 14 rfl
theorem dc_De_turn_21 : decode cd_De_turn 21 = .ok (.iaload, 1) := dq_at (q := (21, .iaload, 1)) dm_De_turn_0 15 rfl
theorem dc_De_turn_22 : decode cd_De_turn 22 = .ok (.ineg, 1) := dq_at (q := (22, .ineg, 1)) dm_De_turn_0 16 rfl
theorem dc_De_turn_23 : decode cd_De_turn 23 = .ok (.iastore, 1) := dq_at (q := (23, .iastore, 1)) dm_De_turn_0 17 rfl
theorem dc_De_turn_24 : decode cd_De_turn 24 = .ok (.aload_n 0, 1) := dq_at (q := (24, .aload_n 0, 1)) dm_De_turn_0 18 rfl
theorem dc_De_turn_25 : decode cd_De_turn 25 = .ok (.iload 4, 2) := dq_at (q := (25, .iload 4, 2)) dm_De_turn_0 19 rfl
theorem dc_De_turn_27 : decode cd_De_turn 27 = .ok (.iload 5, 2) := dq_at (q := (27, .iload 5, 2)) dm_De_turn_0 20 rfl
theorem dc_De_turn_29 : decode cd_De_turn 29 = .ok (.ineg, 1) := dq_at (q := (29, .ineg, 1)) dm_De_turn_0 21 rfl
theorem dc_De_turn_30 : decode cd_De_turn 30 = .ok (.iastore, 1) := dq_at (q := (30, .iastore, 1)) dm_De_turn_0 22 rfl
theorem dc_De_turn_31 : decode cd_De_turn 31 = .ok (.iinc 3 1, 3) := dq_at (q := (31, .iinc 3 1, 3)) dm_De_turn_0 23 rfl
theorem dc_De_turn_34 : decode cd_De_turn 34 = .ok (.iinc 4 (-1), 3) := dq_at (q := (34, .iinc 4 (-1), 3)) dm_De_turn_0 24 rfl
theorem dc_De_turn_37 : decode cd_De_turn 37 = .ok (.goto (-32), 3) := dq_at (q := (37, .goto (-32), 3)) dm_De_turn_0 25 rfl
theorem dc_De_turn_40 : decode cd_De_turn 40 = .ok (.return_, 1) := dq_at (q := (40, .return_, 1)) dm_De_turn_0 26 rfl
def dl_Mo_init_0 : List (Nat × Instr × Nat) := [(0, .aload_n 0, 1), (1, .invokespecial 1, 3), (4, .aload_n 0, 1), (5, .iconst 4, 1), (6, .putfield 7, 3), (9, .aload_n 0, 1), (10, .bipush 30, 2), (12, .newarray .int, 2), (14, .putfield 13, 3), (17, .aload_n 0, 1), (18, .iconst 5, 1), (19, .newarray .int, 2), (21, .putfield 17, 3), (24, .aload_n 0, 1), (25, .bipush 40, 2), (27, .newarray .int, 2), (29, .putfield 20, 3), (32, .aload_n 0, 1), (33, .bipush 24, 2), (35, .newarray .int, 2), (37, .putfield 23, 3), (40, .aload_n 0, 1), (41, .bipush 8, 2), (43, .newarray .int, 2), (45, .putfield 26, 3), (48, .aload_n 0, 1), (49, .bipush 7, 2), (51, .newarray .boolean, 2), (53, .putfield 29, 3), (56, .aload_n 0, 1), (57, .ldc 33, 2), (59, .newarray .int, 2), (61, .putfield 34, 3), (64, .aload_n 0, 1), (65, .ldc 37, 2), (67, .newarray .int, 2), (69, .putfield 38, 3), (72, .aload_n 0, 1), (73, .sipush 442, 3), (76, .newarray .long, 2), (78, .putfield 41, 3), (81, .aload_n 0, 1), (82, .bipush 6, 2), (84, .newarray .int, 2), (86, .putfield 45, 3), (89, .aload_n 0, 1), (90, .bipush 6, 2), (92, .newarray .int, 2), (94, .putfield 48, 3), (97, .aload_n 0, 1), (98, .bipush 6, 2), (100, .newarray .int, 2), (102, .putfield 51, 3), (105, .aload_n 0, 1), (106, .bipush 14, 2), (108, .newarray .int, 2), (110, .putfield 54, 3), (113, .aload_n 0, 1), (114, .bipush 14, 2), (116, .newarray .int, 2)]
theorem dm_Mo_init_0 : dl_Mo_init_0.all (fun q => decide (decode cd_Mo_init q.1 = .ok (q.2.1, q.2.2))) = true := by decide +kernel
theorem dc_Mo_init_0 : decode cd_Mo_init 0 = .ok (.aload_n 0, 1) := dq_at (q := (0, .aload_n 0, 1)) dm_Mo_init_0 0 rfl
theorem dc_Mo_init_1 : decode cd_Mo_init 1 = .ok (.invokespecial 1, 3) := dq_at (q := (1, .invokespecial 1, 3)) dm_Mo_init_0 1 rfl
theorem dc_Mo_init_4 : decode cd_Mo_init 4 = .ok (.aload_n 0, 1) := dq_at (q := (4, .aload_n 0, 1)) dm_Mo_init_0 2 rfl
theorem dc_Mo_init_5 : decode cd_Mo_init 5 = .ok (.iconst 4, 1) := dq_at (q := (5, .iconst 4, 1)) dm_Mo_init_0 3 rfl
theorem dc_Mo_init_6 : decode cd_Mo_init 6 = .ok (.putfield 7, 3) := dq_at (q := (6, .putfield 7, 3)) dm_Mo_init_0 4 rfl
theorem dc_Mo_init_9 : decode cd_Mo_init 9 = .ok (.aload_n 0, 1) := dq_at (q := (9, .aload_n 0, 1)) dm_Mo_init_0 5 rfl
theorem dc_Mo_init_10 : decode cd_Mo_init 10 = .ok (.bipush 30, 2) := dq_at (q := (10, .bipush 30, 2)) dm_Mo_init_0 6 rfl
theorem dc_Mo_init_12 : decode cd_Mo_init 12 = .ok (.newarray .int, 2) := dq_at (q := (12, .newarray .int, 2)) dm_Mo_init_0 7 rfl
theorem dc_Mo_init_14 : decode cd_Mo_init 14 = .ok (.putfield 13, 3) := dq_at (q := (14, .putfield 13, 3)) dm_Mo_init_0 8 rfl
theorem dc_Mo_init_17 : decode cd_Mo_init 17 = .ok (.aload_n 0, 1) := dq_at (q := (17, .aload_n 0, 1)) dm_Mo_init_0 9 rfl
theorem dc_Mo_init_18 : decode cd_Mo_init 18 = .ok (.iconst 5, 1) := dq_at (q := (18, .iconst 5, 1)) dm_Mo_init_0 10 rfl
theorem dc_Mo_init_19 : decode cd_Mo_init 19 = .ok (.newarray .int, 2) := dq_at (q := (19, .newarray .int, 2)) dm_Mo_init_0 11 rfl
theorem dc_Mo_init_21 : decode cd_Mo_init 21 = .ok (.putfield 17, 3) := dq_at (q := (21, .putfield 17, 3)) dm_Mo_init_0 12 rfl
theorem dc_Mo_init_24 : decode cd_Mo_init 24 = .ok (.aload_n 0, 1) := dq_at (q := (24, .aload_n 0, 1)) dm_Mo_init_0 13 rfl
theorem dc_Mo_init_25 : decode cd_Mo_init 25 = .ok (.bipush 40, 2) := dq_at (q := (25, .bipush 40, 2)) dm_Mo_init_0 14 rfl
theorem dc_Mo_init_27 : decode cd_Mo_init 27 = .ok (.newarray .int, 2) := dq_at (q := (27, .newarray .int, 2)) dm_Mo_init_0 15 rfl
theorem dc_Mo_init_29 : decode cd_Mo_init 29 = .ok (.putfield 20, 3) := dq_at (q := (29, .putfield 20, 3)) dm_Mo_init_0 16 rfl
theorem dc_Mo_init_32 : decode cd_Mo_init 32 = .ok (.aload_n 0, 1) := dq_at (q := (32, .aload_n 0, 1)) dm_Mo_init_0 17 rfl
theorem dc_Mo_init_33 : decode cd_Mo_init 33 = .ok (.bipush 24, 2) := dq_at (q := (33, .bipush 24, 2)) dm_Mo_init_0 18 rfl
theorem dc_Mo_init_35 : decode cd_Mo_init 35 = .ok (.newarray .int, 2) := dq_at (q := (35, .newarray .int, 2)) dm_Mo_init_0 19 rfl
theorem dc_Mo_init_37 : decode cd_Mo_init 37 = .ok (.putfield 23, 3) := dq_at (q := (37, .putfield 23, 3)) dm_Mo_init_0 20 rfl
theorem dc_Mo_init_40 : decode cd_Mo_init 40 = .ok (.aload_n 0, 1) := dq_at (q := (40, .aload_n 0, 1)) dm_Mo_init_0 21 rfl
theorem dc_Mo_init_41 : decode cd_Mo_init 41 = .ok (.bipush 8, 2) := dq_at (q := (41, .bipush 8, 2)) dm_Mo_init_0 22 rfl
theorem dc_Mo_init_43 : decode cd_Mo_init 43 = .ok (.newarray .int, 2) := dq_at (q := (43, .newarray .int, 2)) dm_Mo_init_0 23 rfl
theorem dc_Mo_init_45 : decode cd_Mo_init 45 = .ok (.putfield 26, 3) := dq_at (q := (45, .putfield 26, 3)) dm_Mo_init_0 24 rfl
theorem dc_Mo_init_48 : decode cd_Mo_init 48 = .ok (.aload_n 0, 1) := dq_at (q := (48, .aload_n 0, 1)) dm_Mo_init_0 25 rfl
theorem dc_Mo_init_49 : decode cd_Mo_init 49 = .ok (.bipush 7, 2) := dq_at (q := (49, .bipush 7, 2)) dm_Mo_init_0 26 rfl
theorem dc_Mo_init_51 : decode cd_Mo_init 51 = .ok (.newarray .boolean, 2) := dq_at (q := (51, .newarray .boolean, 2)) dm_Mo_init_0 27 rfl
theorem dc_Mo_init_53 : decode cd_Mo_init 53 = .ok (.putfield 29, 3) := dq_at (q := (53, .putfield 29, 3)) dm_Mo_init_0 28 rfl
theorem dc_Mo_init_56 : decode cd_Mo_init 56 = .ok (.aload_n 0, 1) := dq_at (q := (56, .aload_n 0, 1)) dm_Mo_init_0 29 rfl
theorem dc_Mo_init_57 : decode cd_Mo_init 57 = .ok (.ldc 33, 2) := dq_at (q := (57, .ldc 33, 2)) dm_Mo_init_0 30 rfl
theorem dc_Mo_init_59 : decode cd_Mo_init 59 = .ok (.newarray .int, 2) := dq_at (q := (59, .newarray .int, 2)) dm_Mo_init_0 31 rfl
theorem dc_Mo_init_61 : decode cd_Mo_init 61 = .ok (.putfield 34, 3) := dq_at (q := (61, .putfield 34, 3)) dm_Mo_init_0 32 rfl
theorem dc_Mo_init_64 : decode cd_Mo_init 64 = .ok (.aload_n 0, 1) := dq_at (q := (64, .aload_n 0, 1)) dm_Mo_init_0 33 rfl
theorem dc_Mo_init_65 : decode cd_Mo_init 65 = .ok (.ldc 37, 2) := dq_at (q := (65, .ldc 37, 2)) dm_Mo_init_0 34 rfl
theorem dc_Mo_init_67 : decode cd_Mo_init 67 = .ok (.newarray .int, 2) := dq_at (q := (67, .newarray .int, 2)) dm_Mo_init_0 35 rfl
theorem dc_Mo_init_69 : decode cd_Mo_init 69 = .ok (.putfield 38, 3) := dq_at (q := (69, .putfield 38, 3)) dm_Mo_init_0 36 rfl
theorem dc_Mo_init_72 : decode cd_Mo_init 72 = .ok (.aload_n 0, 1) := dq_at (q := (72, .aload_n 0, 1)) dm_Mo_init_0 37 rfl
theorem dc_Mo_init_73 : decode cd_Mo_init 73 = .ok (.sipush 442, 3) := dq_at (q := (73, .sipush 442, 3)) dm_Mo_init_0 38 rfl
theorem dc_Mo_init_76 : decode cd_Mo_init 76 = .ok (.newarray .long, 2) := dq_at (q := (76, .newarray .long, 2)) dm_Mo_init_0 39 rfl
theorem dc_Mo_init_78 : decode cd_Mo_init 78 = .ok (.putfield 41, 3) := dq_at (q := (78, .putfield 41, 3)) dm_Mo_init_0 40 rfl
theorem dc_Mo_init_81 : decode cd_Mo_init 81 = .ok (.aload_n 0, 1) := dq_at (q := (81, .aload_n 0, 1)) dm_Mo_init_0 41 rfl
theorem dc_Mo_init_82 : decode cd_Mo_init 82 = .ok (.bipush 6, 2) := dq_at (q := (82, .bipush 6, 2)) dm_Mo_init_0 42 rfl
theorem dc_Mo_init_84 : decode cd_Mo_init 84 = .ok (.newarray .int, 2) := dq_at (q := (84, .newarray .int, 2)) dm_Mo_init_0 43 rfl
theorem dc_Mo_init_86 : decode cd_Mo_init 86 = .ok (.putfield 45, 3) := dq_at (q := (86, .putfield 45, 3)) dm_Mo_init_0 44 rfl
theorem dc_Mo_init_89 : decode cd_Mo_init 89 = .ok (.aload_n 0, 1) := dq_at (q := (89, .aload_n 0, 1)) dm_Mo_init_0 45 rfl
theorem dc_Mo_init_90 : decode cd_Mo_init 90 = .ok (.bipush 6, 2) := dq_at (q := (90, .bipush 6, 2)) dm_Mo_init_0 46 rfl
theorem dc_Mo_init_92 : decode cd_Mo_init 92 = .ok (.newarray .int, 2) := dq_at (q := (92, .newarray .int, 2)) dm_Mo_init_0 47 rfl
theorem dc_Mo_init_94 : decode cd_Mo_init 94 = .ok (.putfield 48, 3) := dq_at (q := (94, .putfield 48, 3)) dm_Mo_init_0 48 rfl
theorem dc_Mo_init_97 : decode cd_Mo_init 97 = .ok (.aload_n 0, 1) := dq_at (q := (97, .aload_n 0, 1)) dm_Mo_init_0 49 rfl
theorem dc_Mo_init_98 : decode cd_Mo_init 98 = .ok (.bipush 6, 2) := dq_at (q := (98, .bipush 6, 2)) dm_Mo_init_0 50 rfl
theorem dc_Mo_init_100 : decode cd_Mo_init 100 = .ok (.newarray .int, 2) := dq_at (q := (100, .newarray .int, 2)) dm_Mo_init_0 51 rfl
theorem dc_Mo_init_102 : decode cd_Mo_init 102 = .ok (.putfield 51, 3) := dq_at (q := (102, .putfield 51, 3)) dm_Mo_init_0 52 rfl
theorem dc_Mo_init_105 : decode cd_Mo_init 105 = .ok (.aload_n 0, 1) := dq_at (q := (105, .aload_n 0, 1)) dm_Mo_init_0 53 rfl
theorem dc_Mo_init_106 : decode cd_Mo_init 106 = .ok (.bipush 14, 2) := dq_at (q := (106, .bipush 14, 2)) dm_Mo_init_0 54 rfl
theorem dc_Mo_init_108 : decode cd_Mo_init 108 = .ok (.newarray .int, 2) := dq_at (q := (108, .newarray .int, 2)) dm_Mo_init_0 55 rfl
theorem dc_Mo_init_110 : decode cd_Mo_init 110 = .ok (.putfield 54, 3) := dq_at (q := (110, .putfield 54, 3)) dm_Mo_init_0 56 rfl
theorem dc_Mo_init_113 : decode cd_Mo_init 113 = .ok (.aload_n 0, 1) := dq_at (q := (113, .aload_n 0, 1)) dm_Mo_init_0 57 rfl
theorem dc_Mo_init_114 : decode cd_Mo_init 114 = .ok (.bipush 14, 2) := dq_at (q := (114, .bipush 14, 2)) dm_Mo_init_0 58 rfl
theorem dc_Mo_init_116 : decode cd_Mo_init 116 = .ok (.newarray .int, 2) := dq_at (q := (116, .newarray .int, 2)) dm_Mo_init_0 59 rfl
def dl_Mo_init_60 : List (Nat × Instr × Nat) := [(118, .putfield 57, 3), (121, .aload_n 0, 1), (122, .bipush 7, 2), (124, .newarray .int, 2), (126, .putfield 60, 3), (129, .aload_n 0, 1), (130, .bipush 7, 2), (132, .newarray .boolean, 2), (134, .putfield 63, 3), (137, .aload_n 0, 1), (138, .bipush 14, 2), (140, .newarray .boolean, 2), (142, .putfield 66, 3), (145, .aload_n 0, 1), (146, .bipush 14, 2), (148, .newarray .int, 2), (150, .putfield 69, 3), (153, .aload_n 0, 1), (154, .invokevirtual 72, 3), (157, .return_, 1)]
theorem dm_Mo_init_60 : dl_Mo_init_60.all (fun q => decide (decode cd_Mo_init q.1 = .ok (q.2.1, q.2.2))) = true := by decide +kernel
theorem dc_Mo_init_118 : decode cd_Mo_init 118 = .ok (.putfield 57, 3) := dq_at (q := (118, .putfield 57, 3)) dm_Mo_init_60 0 rfl
theorem dc_Mo_init_121 : decode cd_Mo_init 121 = .ok (.aload_n 0, 1) := dq_at (q := (121, .aload_n 0, 1)) dm_Mo_init_60 1 rfl
theorem dc_Mo_init_122 : decode cd_Mo_init 122 = .ok (.bipush 7, 2) := dq_at (q := (122, .bipush 7, 2)) dm_Mo_init_60 2 rfl
theorem dc_Mo_init_124 : decode cd_Mo_init 124 = .ok (.newarray .int, 2) := dq_at (q := (124, .newarray .int, 2)) dm_Mo_init_60 3 rfl
theorem dc_Mo_init_126 : decode cd_Mo_init 126 = .ok (.putfield 60, 3) := dq_at (q := (126, .putfield 60, 3)) dm_Mo_init_60 4 rfl
theorem dc_Mo_init_129 : decode cd_Mo_init 129 = .ok (.aload_n 0, 1) := dq_at (q := (129, .aload_n 0, 1)) dm_Mo_init_60 5 rfl
theorem dc_Mo_init_130 : decode cd_Mo_init 130 = .ok (.bipush 7, 2) := dq_at (q := (130, .bipush 7, 2)) dm_Mo_init_60 6 rfl
theorem dc_Mo_init_132 : decode cd_Mo_init 132 = .ok (.newarray .boolean, 2) := dq_at (q := (132, .newarray .boolean, 2)) dm_Mo_init_60 7 rfl
theorem dc_Mo_init_134 : decode cd_Mo_init 134 = .ok (.putfield 63, 3) := dq_at (q := (134, .putfield 63, 3)) dm_Mo_init_60 8 rfl
theorem dc_Mo_init_137 : decode cd_Mo_init 137 = .ok (.aload_n 0, 1) := dq_at (q := (137, .aload_n 0, 1)) dm_Mo_init_60 9 rfl
theorem dc_Mo_init_138 : decode cd_Mo_init 138 = .ok (.bipush 14, 2) := dq_at (q := (138, .bipush 14, 2)) dm_Mo_init_60 10 rfl
theorem dc_Mo_init_140 : decode cd_Mo_init 140 = .ok (.newarray .boolean, 2) := dq_at (q := (140, .newarray .boolean, 2)) dm_Mo_init_60 11 rfl
theorem dc_Mo_init_142 : decode cd_Mo_init 142 = .ok (.putfield 66, 3) := dq_at (q := (142, .putfield 66, 3)) dm_Mo_init_60 12 rfl
theorem dc_Mo_init_145 : decode cd_Mo_init 145 = .ok (.aload_n 0, 1) := dq_at (q := (145, .aload_n 0, 1)) dm_Mo_init_60 13 rfl
theorem dc_Mo_init_146 : decode cd_Mo_init 146 = .ok (.bipush 14, 2) := dq_at (q := (146, .bipush 14, 2)) dm_Mo_init_60 14 rfl
theorem dc_Mo_init_148 : decode cd_Mo_init 148 = .ok (.newarray .int, 2) := dq_at (q := (148, .newarray .int, 2)) dm_Mo_init_60 15 rfl
theorem dc_Mo_init_150 : decode cd_Mo_init 150 = .ok (.putfield 69, 3) := dq_at (q := (150, .putfield 69, 3)) dm_Mo_init_60 16 rfl
theorem dc_Mo_init_153 : decode cd_Mo_init 153 = .ok (.aload_n 0, 1) := dq_at (q := (153, .aload_n 0, 1)) dm_Mo_init_60 17 rfl
theorem dc_Mo_init_154 : decode cd_Mo_init 154 = .ok (.invokevirtual 72, 3) := dq_at (q := (154, .invokevirtual 72, 3)) dm_Mo_init_60 18 rfl
theorem dc_Mo_init_157 : decode cd_Mo_init 157 = .ok (.return_, 1) := dq_at (q := (157, .return_, 1)) dm_Mo_init_60 19 rfl
def dl_Mo_thrown_0 : List (Nat × Instr × Nat) := [(0, .aload_n 0, 1), (1, .getfield 75, 3), (4, .ireturn, 1)]
theorem dm_Mo_thrown_0 : dl_Mo_thrown_0.all (fun q => decide (decode cd_Mo_thrown q.1 = .ok (q.2.1, q.2.2))) = true := by decide +kernel
theorem dc_Mo_thrown_0 : decode cd_Mo_thrown 0 = .ok (.aload_n 0, 1) := dq_at (q := (0, .aload_n 0, 1)) dm_Mo_thrown_0 0 rfl
theorem dc_Mo_thrown_1 : decode cd_Mo_thrown 1 = .ok (.getfield 75, 3) := dq_at (q := (1, .getfield 75, 3)) dm_Mo_thrown_0 1 rfl
theorem dc_Mo_thrown_4 : decode cd_Mo_thrown 4 = .ok (.ireturn, 1) := dq_at (q := (4, .ireturn, 1)) dm_Mo_thrown_0 2 rfl
def dl_Mo_noSlot_0 : List (Nat × Instr × Nat) := [(0, .iload_n 0, 1), (1, .ifCond .lt 8, 3), (4, .iload_n 0, 1), (5, .iconst 5, 1), (6, .if_icmp .lt 7, 3), (9, .iconst 1, 1), (10, .goto 4, 3), (13, .iconst 0, 1), (14, .ireturn, 1)]
theorem dm_Mo_noSlot_0 : dl_Mo_noSlot_0.all (fun q => decide (decode cd_Mo_noSlot q.1 = .ok (q.2.1, q.2.2))) = true := by decide +kernel
theorem dc_Mo_noSlot_0 : decode cd_Mo_noSlot 0 = .ok (.iload_n 0, 1) := dq_at (q := (0, .iload_n 0, 1)) dm_Mo_noSlot_0 0 rfl
theorem dc_Mo_noSlot_1 : decode cd_Mo_noSlot 1 = .ok (.ifCond .lt 8, 3) := dq_at (q := (1, .ifCond .lt 8, 3)) dm_Mo_noSlot_0 1 rfl
theorem dc_Mo_noSlot_4 : decode cd_Mo_noSlot 4 = .ok (.iload_n 0, 1) := dq_at (q := (4, .iload_n 0, 1)) dm_Mo_noSlot_0 2 rfl
theorem dc_Mo_noSlot_5 : decode cd_Mo_noSlot 5 = .ok (.iconst 5, 1) := dq_at (q := (5, .iconst 5, 1)) dm_Mo_noSlot_0 3 rfl
theorem dc_Mo_noSlot_6 : decode cd_Mo_noSlot 6 = .ok (.if_icmp .lt 7, 3) := dq_at (q := (6, .if_icmp .lt 7, 3)) dm_Mo_noSlot_0 4 rfl
theorem dc_Mo_noSlot_9 : decode cd_Mo_noSlot 9 = .ok (.iconst 1, 1) := dq_at (q := (9, .iconst 1, 1)) dm_Mo_noSlot_0 5 rfl
theorem dc_Mo_noSlot_10 : decode cd_Mo_noSlot 10 = .ok (.goto 4, 3) := dq_at (q := (10, .goto 4, 3)) dm_Mo_noSlot_0 6 rfl
theorem dc_Mo_noSlot_13 : decode cd_Mo_noSlot 13 = .ok (.iconst 0, 1) := dq_at (q := (13, .iconst 0, 1)) dm_Mo_noSlot_0 7 rfl
theorem dc_Mo_noSlot_14 : decode cd_Mo_noSlot 14 = .ok (.ireturn, 1) := dq_at (q := (14, .ireturn, 1)) dm_Mo_noSlot_0 8 rfl
def dl_Mo_clear_0 : List (Nat × Instr × Nat) := [(0, .iconst 0, 1), (1, .istore_n 1, 1), (2, .iload_n 1, 1), (3, .iconst 5, 1), (4, .if_icmp .ge 46, 3), (7, .iconst 0, 1), (8, .istore_n 2, 1), (9, .iload_n 2, 1), (10, .aload_n 0, 1), (11, .getfield 7, 3), (14, .if_icmp .ge 23, 3), (17, .aload_n 0, 1), (18, .getfield 13, 3), (21, .bipush 6, 2), (23, .iload_n 1, 1), (24, .imul, 1), (25, .iload_n 2, 1), (26, .iadd, 1), (27, .iload_n 2, 1), (28, .iconst 1, 1), (29, .iadd, 1), (30, .iastore, 1), (31, .iinc 2 1, 3), (34, .goto (-25), 3), (37, .aload_n 0, 1), (38, .getfield 17, 3), (41, .iload_n 1, 1), (42, .iconst 0, 1), (43, .iastore, 1), (44, .iinc 1 1, 3), (47, .goto (-45), 3), (50, .aload_n 0, 1), (51, .iconst 0, 1), (52, .putfield 78, 3), (55, .return_, 1)]
theorem dm_Mo_clear_0 : dl_Mo_clear_0.all (fun q => decide (decode cd_Mo_clear q.1 = .ok (q.2.1, q.2.2))) = true := by decide +kernel
theorem dc_Mo_clear_0 : decode cd_Mo_clear 0 = .ok (.iconst 0, 1) := dq_at (q := (0, .iconst 0, 1)) dm_Mo_clear_0 0 rfl
theorem dc_Mo_clear_1 : decode cd_Mo_clear 1 = .ok (.istore_n 1, 1) := dq_at (q := (1, .istore_n 1, 1)) dm_Mo_clear_0 1 rfl
theorem dc_Mo_clear_2 : decode cd_Mo_clear 2 = .ok (.iload_n 1, 1) := dq_at (q := (2, .iload_n 1, 1)) dm_Mo_clear_0 2 rfl
theorem dc_Mo_clear_3 : decode cd_Mo_clear 3 = .ok (.iconst 5, 1) := dq_at (q := (3, .iconst 5, 1)) dm_Mo_clear_0 3 rfl
theorem dc_Mo_clear_4 : decode cd_Mo_clear 4 = .ok (.if_icmp .ge 46, 3) := dq_at (q := (4, .if_icmp .ge 46, 3)) dm_Mo_clear_0 4 rfl
theorem dc_Mo_clear_7 : decode cd_Mo_clear 7 = .ok (.iconst 0, 1) := dq_at (q := (7, .iconst 0, 1)) dm_Mo_clear_0 5 rfl
theorem dc_Mo_clear_8 : decode cd_Mo_clear 8 = .ok (.istore_n 2, 1) := dq_at (q := (8, .istore_n 2, 1)) dm_Mo_clear_0 6 rfl
theorem dc_Mo_clear_9 : decode cd_Mo_clear 9 = .ok (.iload_n 2, 1) := dq_at (q := (9, .iload_n 2, 1)) dm_Mo_clear_0 7 rfl
theorem dc_Mo_clear_10 : decode cd_Mo_clear 10 = .ok (.aload_n 0, 1) := dq_at (q := (10, .aload_n 0, 1)) dm_Mo_clear_0 8 rfl
theorem dc_Mo_clear_11 : decode cd_Mo_clear 11 = .ok (.getfield 7, 3) := dq_at (q := (11, .getfield 7, 3)) dm_Mo_clear_0 9 rfl
theorem dc_Mo_clear_14 : decode cd_Mo_clear 14 = .ok (.if_icmp .ge 23, 3) := dq_at (q := (14, .if_icmp .ge 23, 3)) dm_Mo_clear_0 10 rfl
theorem dc_Mo_clear_17 : decode cd_Mo_clear 17 = .ok (.aload_n 0, 1) := dq_at (q := (17, .aload_n 0, 1)) dm_Mo_clear_0 11 rfl
theorem dc_Mo_clear_18 : decode cd_Mo_clear 18 = .ok (.getfield 13, 3) := dq_at (q := (18, .getfield 13, 3)) dm_Mo_clear_0 12 rfl
theorem dc_Mo_clear_21 : decode cd_Mo_clear 21 = .ok (.bipush 6, 2) := dq_at (q := (21, .bipush 6, 2)) dm_Mo_clear_0 13 rfl
theorem dc_Mo_clear_23 : decode cd_Mo_clear 23 = .ok (.iload_n 1, 1) := dq_at (q := (23, .iload_n 1, 1)) dm_Mo_clear_0 14 rfl
theorem dc_Mo_clear_24 : decode cd_Mo_clear 24 = .ok (.imul, 1) := dq_at (q := (24, .imul, 1)) dm_Mo_clear_0 15 rfl
theorem dc_Mo_clear_25 : decode cd_Mo_clear 25 = .ok (.iload_n 2, 1) := dq_at (q := (25, .iload_n 2, 1)) dm_Mo_clear_0 16 rfl
theorem dc_Mo_clear_26 : decode cd_Mo_clear 26 = .ok (.iadd, 1) := dq_at (q := (26, .iadd, 1)) dm_Mo_clear_0 17 rfl
theorem dc_Mo_clear_27 : decode cd_Mo_clear 27 = .ok (.iload_n 2, 1) := dq_at (q := (27, .iload_n 2, 1)) dm_Mo_clear_0 18 rfl
theorem dc_Mo_clear_28 : decode cd_Mo_clear 28 = .ok (.iconst 1, 1) := dq_at (q := (28, .iconst 1, 1)) dm_Mo_clear_0 19 rfl
theorem dc_Mo_clear_29 : decode cd_Mo_clear 29 = .ok (.iadd, 1) := dq_at (q := (29, .iadd, 1)) dm_Mo_clear_0 20 rfl
theorem dc_Mo_clear_30 : decode cd_Mo_clear 30 = .ok (.iastore, 1) := dq_at (q := (30, .iastore, 1)) dm_Mo_clear_0 21 rfl
theorem dc_Mo_clear_31 : decode cd_Mo_clear 31 = .ok (.iinc 2 1, 3) := dq_at (q := (31, .iinc 2 1, 3)) dm_Mo_clear_0 22 rfl
theorem dc_Mo_clear_34 : decode cd_Mo_clear 34 = .ok (.goto (-25), 3) := dq_at (q := (34, .goto (-25), 3)) dm_Mo_clear_0 23 rfl
theorem dc_Mo_clear_37 : decode cd_Mo_clear 37 = .ok (.aload_n 0, 1) := dq_at (q := (37, .aload_n 0, 1)) dm_Mo_clear_0 24 rfl
theorem dc_Mo_clear_38 : decode cd_Mo_clear 38 = .ok (.getfield 17, 3) := dq_at (q := (38, .getfield 17, 3)) dm_Mo_clear_0 25 rfl
theorem dc_Mo_clear_41 : decode cd_Mo_clear 41 = .ok (.iload_n 1, 1) := dq_at (q := (41, .iload_n 1, 1)) dm_Mo_clear_0 26 rfl
theorem dc_Mo_clear_42 : decode cd_Mo_clear 42 = .ok (.iconst 0, 1) := dq_at (q := (42, .iconst 0, 1)) dm_Mo_clear_0 27 rfl
theorem dc_Mo_clear_43 : decode cd_Mo_clear 43 = .ok (.iastore, 1) := dq_at (q := (43, .iastore, 1)) dm_Mo_clear_0 28 rfl
theorem dc_Mo_clear_44 : decode cd_Mo_clear 44 = .ok (.iinc 1 1, 3) := dq_at (q := (44, .iinc 1 1, 3)) dm_Mo_clear_0 29 rfl
theorem dc_Mo_clear_47 : decode cd_Mo_clear 47 = .ok (.goto (-45), 3) := dq_at (q := (47, .goto (-45), 3)) dm_Mo_clear_0 30 rfl
theorem dc_Mo_clear_50 : decode cd_Mo_clear 50 = .ok (.aload_n 0, 1) := dq_at (q := (50, .aload_n 0, 1)) dm_Mo_clear_0 31 rfl
theorem dc_Mo_clear_51 : decode cd_Mo_clear 51 = .ok (.iconst 0, 1) := dq_at (q := (51, .iconst 0, 1)) dm_Mo_clear_0 32 rfl
theorem dc_Mo_clear_52 : decode cd_Mo_clear 52 = .ok (.putfield 78, 3) := dq_at (q := (52, .putfield 78, 3)) dm_Mo_clear_0 33 rfl
theorem dc_Mo_clear_55 : decode cd_Mo_clear 55 = .ok (.return_, 1) := dq_at (q := (55, .return_, 1)) dm_Mo_clear_0 34 rfl
def dl_Mo_genes_0 : List (Nat × Instr × Nat) := [(0, .aload_n 0, 1), (1, .iload_n 1, 1), (2, .iconst 1, 1), (3, .if_icmp .lt 9, 3), (6, .iload_n 1, 1), (7, .bipush 6, 2), (9, .if_icmp .le 7, 3), (12, .iconst 1, 1), (13, .goto 4, 3), (16, .iconst 0, 1), (17, .putfield 75, 3), (20, .aload_n 0, 1), (21, .getfield 75, 3), (24, .ifCond .ne 12, 3), (27, .aload_n 0, 1), (28, .iload_n 1, 1), (29, .putfield 7, 3), (32, .aload_n 0, 1), (33, .invokevirtual 72, 3), (36, .return_, 1)]
theorem dm_Mo_genes_0 : dl_Mo_genes_0.all (fun q => decide (decode cd_Mo_genes q.1 = .ok (q.2.1, q.2.2))) = true := by decide +kernel
theorem dc_Mo_genes_0 : decode cd_Mo_genes 0 = .ok (.aload_n 0, 1) := dq_at (q := (0, .aload_n 0, 1)) dm_Mo_genes_0 0 rfl
theorem dc_Mo_genes_1 : decode cd_Mo_genes 1 = .ok (.iload_n 1, 1) := dq_at (q := (1, .iload_n 1, 1)) dm_Mo_genes_0 1 rfl
theorem dc_Mo_genes_2 : decode cd_Mo_genes 2 = .ok (.iconst 1, 1) := dq_at (q := (2, .iconst 1, 1)) dm_Mo_genes_0 2 rfl
theorem dc_Mo_genes_3 : decode cd_Mo_genes 3 = .ok (.if_icmp .lt 9, 3) := dq_at (q := (3, .if_icmp .lt 9, 3)) dm_Mo_genes_0 3 rfl
theorem dc_Mo_genes_6 : decode cd_Mo_genes 6 = .ok (.iload_n 1, 1) := dq_at (q := (6, .iload_n 1, 1)) dm_Mo_genes_0 4 rfl
theorem dc_Mo_genes_7 : decode cd_Mo_genes 7 = .ok (.bipush 6, 2) := dq_at (q := (7, .bipush 6, 2)) dm_Mo_genes_0 5 rfl
theorem dc_Mo_genes_9 : decode cd_Mo_genes 9 = .ok (.if_icmp .le 7, 3) := dq_at (q := (9, .if_icmp .le 7, 3)) dm_Mo_genes_0 6 rfl
theorem dc_Mo_genes_12 : decode cd_Mo_genes 12 = .ok (.iconst 1, 1) := dq_at (q := (12, .iconst 1, 1)) dm_Mo_genes_0 7 rfl
theorem dc_Mo_genes_13 : decode cd_Mo_genes 13 = .ok (.goto 4, 3) := dq_at (q := (13, .goto 4, 3)) dm_Mo_genes_0 8 rfl
theorem dc_Mo_genes_16 : decode cd_Mo_genes 16 = .ok (.iconst 0, 1) := dq_at (q := (16, .iconst 0, 1)) dm_Mo_genes_0 9 rfl
theorem dc_Mo_genes_17 : decode cd_Mo_genes 17 = .ok (.putfield 75, 3) := dq_at (q := (17, .putfield 75, 3)) dm_Mo_genes_0 10 rfl
theorem dc_Mo_genes_20 : decode cd_Mo_genes 20 = .ok (.aload_n 0, 1) := dq_at (q := (20, .aload_n 0, 1)) dm_Mo_genes_0 11 rfl
theorem dc_Mo_genes_21 : decode cd_Mo_genes 21 = .ok (.getfield 75, 3) := dq_at (q := (21, .getfield 75, 3)) dm_Mo_genes_0 12 rfl
theorem dc_Mo_genes_24 : decode cd_Mo_genes 24 = .ok (.ifCond .ne 12, 3) := dq_at (q := (24, .ifCond .ne 12, 3)) dm_Mo_genes_0 13 rfl
theorem dc_Mo_genes_27 : decode cd_Mo_genes 27 = .ok (.aload_n 0, 1) := dq_at (q := (27, .aload_n 0, 1)) dm_Mo_genes_0 14 rfl
theorem dc_Mo_genes_28 : decode cd_Mo_genes 28 = .ok (.iload_n 1, 1) := dq_at (q := (28, .iload_n 1, 1)) dm_Mo_genes_0 15 rfl
theorem dc_Mo_genes_29 : decode cd_Mo_genes 29 = .ok (.putfield 7, 3) := dq_at (q := (29, .putfield 7, 3)) dm_Mo_genes_0 16 rfl
theorem dc_Mo_genes_32 : decode cd_Mo_genes 32 = .ok (.aload_n 0, 1) := dq_at (q := (32, .aload_n 0, 1)) dm_Mo_genes_0 17 rfl
theorem dc_Mo_genes_33 : decode cd_Mo_genes 33 = .ok (.invokevirtual 72, 3) := dq_at (q := (33, .invokevirtual 72, 3)) dm_Mo_genes_0 18 rfl
theorem dc_Mo_genes_36 : decode cd_Mo_genes 36 = .ok (.return_, 1) := dq_at (q := (36, .return_, 1)) dm_Mo_genes_0 19 rfl
def dl_Mo_write_0 : List (Nat × Instr × Nat) := [(0, .aload_n 0, 1), (1, .iconst 0, 1), (2, .putfield 75, 3), (5, .iconst 0, 1), (6, .istore_n 3, 1), (7, .iconst 0, 1), (8, .istore 4, 2), (10, .iload 4, 2), (12, .bipush 64, 2), (14, .if_icmp .ge 30, 3), (17, .lload_n 1, 1), (18, .iload 4, 2), (20, .lshr, 1), (21, .ldc2_w 82, 3), (24, .land, 1), (25, .lconst 0, 1), (26, .lcmp, 1), (27, .ifCond .eq 9, 3), (30, .iload_n 3, 1), (31, .iconst 1, 1), (32, .iadd, 1), (33, .goto 4, 3), (36, .iload_n 3, 1), (37, .istore_n 3, 1), (38, .iinc 4 8, 3), (41, .goto (-31), 3), (44, .aload_n 0, 1), (45, .getfield 84, 3), (48, .iload_n 3, 1), (49, .iadd, 1), (50, .bipush 24, 2), (52, .if_icmp .le 5, 3), (55, .iconst (-1), 1), (56, .ireturn, 1), (57, .iconst 0, 1), (58, .istore 4, 2), (60, .iload 4, 2), (62, .bipush 64, 2), (64, .if_icmp .ge 46, 3), (67, .lload_n 1, 1), (68, .iload 4, 2), (70, .lshr, 1), (71, .ldc2_w 82, 3), (74, .land, 1), (75, .l2i, 1), (76, .istore 5, 2), (78, .iload 5, 2), (80, .ifCond .eq 24, 3), (83, .aload_n 0, 1), (84, .getfield 23, 3), (87, .aload_n 0, 1), (88, .getfield 84, 3), (91, .iload 5, 2), (93, .iastore, 1), (94, .aload_n 0, 1), (95, .dup, 1), (96, .getfield 84, 3), (99, .iconst 1, 1), (100, .iadd, 1), (101, .putfield 84, 3)]
theorem dm_Mo_write_0 : dl_Mo_write_0.all (fun q => decide (decode cd_Mo_write q.1 = .ok (q.2.1, q.2.2))) = true := by decide +kernel
theorem dc_Mo_write_0 : decode cd_Mo_write 0 = .ok (.aload_n 0, 1) := dq_at (q := (0, .aload_n 0, 1)) dm_Mo_write_0 0 rfl
theorem dc_Mo_write_1 : decode cd_Mo_write 1 = .ok (.iconst 0, 1) := dq_at (q := (1, .iconst 0, 1)) dm_Mo_write_0 1 rfl
theorem dc_Mo_write_2 : decode cd_Mo_write 2 = .ok (.putfield 75, 3) := dq_at (q := (2, .putfield 75, 3)) dm_Mo_write_0 2 rfl
theorem dc_Mo_write_5 : decode cd_Mo_write 5 = .ok (.iconst 0, 1) := dq_at (q := (5, .iconst 0, 1)) dm_Mo_write_0 3 rfl
theorem dc_Mo_write_6 : decode cd_Mo_write 6 = .ok (.istore_n 3, 1) := dq_at (q := (6, .istore_n 3, 1)) dm_Mo_write_0 4 rfl
theorem dc_Mo_write_7 : decode cd_Mo_write 7 = .ok (.iconst 0, 1) := dq_at (q := (7, .iconst 0, 1)) dm_Mo_write_0 5 rfl
theorem dc_Mo_write_8 : decode cd_Mo_write 8 = .ok (.istore 4, 2) := dq_at (q := (8, .istore 4, 2)) dm_Mo_write_0 6 rfl
theorem dc_Mo_write_10 : decode cd_Mo_write 10 = .ok (.iload 4, 2) := dq_at (q := (10, .iload 4, 2)) dm_Mo_write_0 7 rfl
theorem dc_Mo_write_12 : decode cd_Mo_write 12 = .ok (.bipush 64, 2) := dq_at (q := (12, .bipush 64, 2)) dm_Mo_write_0 8 rfl
theorem dc_Mo_write_14 : decode cd_Mo_write 14 = .ok (.if_icmp .ge 30, 3) := dq_at (q := (14, .if_icmp .ge 30, 3)) dm_Mo_write_0 9 rfl
theorem dc_Mo_write_17 : decode cd_Mo_write 17 = .ok (.lload_n 1, 1) := dq_at (q := (17, .lload_n 1, 1)) dm_Mo_write_0 10 rfl
theorem dc_Mo_write_18 : decode cd_Mo_write 18 = .ok (.iload 4, 2) := dq_at (q := (18, .iload 4, 2)) dm_Mo_write_0 11 rfl
theorem dc_Mo_write_20 : decode cd_Mo_write 20 = .ok (.lshr, 1) := dq_at (q := (20, .lshr, 1)) dm_Mo_write_0 12 rfl
theorem dc_Mo_write_21 : decode cd_Mo_write 21 = .ok (.ldc2_w 82, 3) := dq_at (q := (21, .ldc2_w 82, 3)) dm_Mo_write_0 13 rfl
theorem dc_Mo_write_24 : decode cd_Mo_write 24 = .ok (.land, 1) := dq_at (q := (24, .land, 1)) dm_Mo_write_0 14 rfl
theorem dc_Mo_write_25 : decode cd_Mo_write 25 = .ok (.lconst 0, 1) := dq_at (q := (25, .lconst 0, 1)) dm_Mo_write_0 15 rfl
theorem dc_Mo_write_26 : decode cd_Mo_write 26 = .ok (.lcmp, 1) := dq_at (q := (26, .lcmp, 1)) dm_Mo_write_0 16 rfl
theorem dc_Mo_write_27 : decode cd_Mo_write 27 = .ok (.ifCond .eq 9, 3) := dq_at (q := (27, .ifCond .eq 9, 3)) dm_Mo_write_0 17 rfl
theorem dc_Mo_write_30 : decode cd_Mo_write 30 = .ok (.iload_n 3, 1) := dq_at (q := (30, .iload_n 3, 1)) dm_Mo_write_0 18 rfl
theorem dc_Mo_write_31 : decode cd_Mo_write 31 = .ok (.iconst 1, 1) := dq_at (q := (31, .iconst 1, 1)) dm_Mo_write_0 19 rfl
theorem dc_Mo_write_32 : decode cd_Mo_write 32 = .ok (.iadd, 1) := dq_at (q := (32, .iadd, 1)) dm_Mo_write_0 20 rfl
theorem dc_Mo_write_33 : decode cd_Mo_write 33 = .ok (.goto 4, 3) := dq_at (q := (33, .goto 4, 3)) dm_Mo_write_0 21 rfl
theorem dc_Mo_write_36 : decode cd_Mo_write 36 = .ok (.iload_n 3, 1) := dq_at (q := (36, .iload_n 3, 1)) dm_Mo_write_0 22 rfl
theorem dc_Mo_write_37 : decode cd_Mo_write 37 = .ok (.istore_n 3, 1) := dq_at (q := (37, .istore_n 3, 1)) dm_Mo_write_0 23 rfl
theorem dc_Mo_write_38 : decode cd_Mo_write 38 = .ok (.iinc 4 8, 3) := dq_at (q := (38, .iinc 4 8, 3)) dm_Mo_write_0 24 rfl
theorem dc_Mo_write_41 : decode cd_Mo_write 41 = .ok (.goto (-31), 3) := dq_at (q := (41, .goto (-31), 3)) dm_Mo_write_0 25 rfl
theorem dc_Mo_write_44 : decode cd_Mo_write 44 = .ok (.aload_n 0, 1) := dq_at (q := (44, .aload_n 0, 1)) dm_Mo_write_0 26 rfl
theorem dc_Mo_write_45 : decode cd_Mo_write 45 = .ok (.getfield 84, 3) := dq_at (q := (45, .getfield 84, 3)) dm_Mo_write_0 27 rfl
theorem dc_Mo_write_48 : decode cd_Mo_write 48 = .ok (.iload_n 3, 1) := dq_at (q := (48, .iload_n 3, 1)) dm_Mo_write_0 28 rfl
theorem dc_Mo_write_49 : decode cd_Mo_write 49 = .ok (.iadd, 1) := dq_at (q := (49, .iadd, 1)) dm_Mo_write_0 29 rfl
theorem dc_Mo_write_50 : decode cd_Mo_write 50 = .ok (.bipush 24, 2) := dq_at (q := (50, .bipush 24, 2)) dm_Mo_write_0 30 rfl
theorem dc_Mo_write_52 : decode cd_Mo_write 52 = .ok (.if_icmp .le 5, 3) := dq_at (q := (52, .if_icmp .le 5, 3)) dm_Mo_write_0 31 rfl
theorem dc_Mo_write_55 : decode cd_Mo_write 55 = .ok (.iconst (-1), 1) := dq_at (q := (55, .iconst (-1), 1)) dm_Mo_write_0 32 rfl
theorem dc_Mo_write_56 : decode cd_Mo_write 56 = .ok (.ireturn, 1) := dq_at (q := (56, .ireturn, 1)) dm_Mo_write_0 33 rfl
theorem dc_Mo_write_57 : decode cd_Mo_write 57 = .ok (.iconst 0, 1) := dq_at (q := (57, .iconst 0, 1)) dm_Mo_write_0 34 rfl
theorem dc_Mo_write_58 : decode cd_Mo_write 58 = .ok (.istore 4, 2) := dq_at (q := (58, .istore 4, 2)) dm_Mo_write_0 35 rfl
theorem dc_Mo_write_60 : decode cd_Mo_write 60 = .ok (.iload 4, 2) := dq_at (q := (60, .iload 4, 2)) dm_Mo_write_0 36 rfl
theorem dc_Mo_write_62 : decode cd_Mo_write 62 = .ok (.bipush 64, 2) := dq_at (q := (62, .bipush 64, 2)) dm_Mo_write_0 37 rfl
theorem dc_Mo_write_64 : decode cd_Mo_write 64 = .ok (.if_icmp .ge 46, 3) := dq_at (q := (64, .if_icmp .ge 46, 3)) dm_Mo_write_0 38 rfl
theorem dc_Mo_write_67 : decode cd_Mo_write 67 = .ok (.lload_n 1, 1) := dq_at (q := (67, .lload_n 1, 1)) dm_Mo_write_0 39 rfl
theorem dc_Mo_write_68 : decode cd_Mo_write 68 = .ok (.iload 4, 2) := dq_at (q := (68, .iload 4, 2)) dm_Mo_write_0 40 rfl
theorem dc_Mo_write_70 : decode cd_Mo_write 70 = .ok (.lshr, 1) := dq_at (q := (70, .lshr, 1)) dm_Mo_write_0 41 rfl
theorem dc_Mo_write_71 : decode cd_Mo_write 71 = .ok (.ldc2_w 82, 3) := dq_at (q := (71, .ldc2_w 82, 3)) dm_Mo_write_0 42 rfl
theorem dc_Mo_write_74 : decode cd_Mo_write 74 = .ok (.land, 1) := dq_at (q := (74, .land, 1)) dm_Mo_write_0 43 rfl
theorem dc_Mo_write_75 : decode cd_Mo_write 75 = .ok (.l2i, 1) := dq_at (q := (75, .l2i, 1)) dm_Mo_write_0 44 rfl
theorem dc_Mo_write_76 : decode cd_Mo_write 76 = .ok (.istore 5, 2) := dq_at (q := (76, .istore 5, 2)) dm_Mo_write_0 45 rfl
theorem dc_Mo_write_78 : decode cd_Mo_write 78 = .ok (.iload 5, 2) := dq_at (q := (78, .iload 5, 2)) dm_Mo_write_0 46 rfl
theorem dc_Mo_write_80 : decode cd_Mo_write 80 = .ok (.ifCond .eq 24, 3) := dq_at (q := (80, .ifCond .eq 24, 3)) dm_Mo_write_0 47 rfl
theorem dc_Mo_write_83 : decode cd_Mo_write 83 = .ok (.aload_n 0, 1) := dq_at (q := (83, .aload_n 0, 1)) dm_Mo_write_0 48 rfl
theorem dc_Mo_write_84 : decode cd_Mo_write 84 = .ok (.getfield 23, 3) := dq_at (q := (84, .getfield 23, 3)) dm_Mo_write_0 49 rfl
theorem dc_Mo_write_87 : decode cd_Mo_write 87 = .ok (.aload_n 0, 1) := dq_at (q := (87, .aload_n 0, 1)) dm_Mo_write_0 50 rfl
theorem dc_Mo_write_88 : decode cd_Mo_write 88 = .ok (.getfield 84, 3) := dq_at (q := (88, .getfield 84, 3)) dm_Mo_write_0 51 rfl
theorem dc_Mo_write_91 : decode cd_Mo_write 91 = .ok (.iload 5, 2) := dq_at (q := (91, .iload 5, 2)) dm_Mo_write_0 52 rfl
theorem dc_Mo_write_93 : decode cd_Mo_write 93 = .ok (.iastore, 1) := dq_at (q := (93, .iastore, 1)) dm_Mo_write_0 53 rfl
theorem dc_Mo_write_94 : decode cd_Mo_write 94 = .ok (.aload_n 0, 1) := dq_at (q := (94, .aload_n 0, 1)) dm_Mo_write_0 54 rfl
theorem dc_Mo_write_95 : decode cd_Mo_write 95 = .ok (.dup, 1) := dq_at (q := (95, .dup, 1)) dm_Mo_write_0 55 rfl
theorem dc_Mo_write_96 : decode cd_Mo_write 96 = .ok (.getfield 84, 3) := dq_at (q := (96, .getfield 84, 3)) dm_Mo_write_0 56 rfl
theorem dc_Mo_write_99 : decode cd_Mo_write 99 = .ok (.iconst 1, 1) := dq_at (q := (99, .iconst 1, 1)) dm_Mo_write_0 57 rfl
theorem dc_Mo_write_100 : decode cd_Mo_write 100 = .ok (.iadd, 1) := dq_at (q := (100, .iadd, 1)) dm_Mo_write_0 58 rfl
theorem dc_Mo_write_101 : decode cd_Mo_write 101 = .ok (.putfield 84, 3) := dq_at (q := (101, .putfield 84, 3)) dm_Mo_write_0 59 rfl
def dl_Mo_write_60 : List (Nat × Instr × Nat) := [(104, .iinc 4 8, 3), (107, .goto (-47), 3), (110, .aload_n 0, 1), (111, .getfield 84, 3), (114, .ireturn, 1)]
theorem dm_Mo_write_60 : dl_Mo_write_60.all (fun q => decide (decode cd_Mo_write q.1 = .ok (q.2.1, q.2.2))) = true := by decide +kernel
theorem dc_Mo_write_104 : decode cd_Mo_write 104 = .ok (.iinc 4 8, 3) := dq_at (q := (104, .iinc 4 8, 3)) dm_Mo_write_60 0 rfl
theorem dc_Mo_write_107 : decode cd_Mo_write 107 = .ok (.goto (-47), 3) := dq_at (q := (107, .goto (-47), 3)) dm_Mo_write_60 1 rfl
theorem dc_Mo_write_110 : decode cd_Mo_write 110 = .ok (.aload_n 0, 1) := dq_at (q := (110, .aload_n 0, 1)) dm_Mo_write_60 2 rfl
theorem dc_Mo_write_111 : decode cd_Mo_write 111 = .ok (.getfield 84, 3) := dq_at (q := (111, .getfield 84, 3)) dm_Mo_write_60 3 rfl
theorem dc_Mo_write_114 : decode cd_Mo_write 114 = .ok (.ireturn, 1) := dq_at (q := (114, .ireturn, 1)) dm_Mo_write_60 4 rfl
def dl_Mo_wipe_0 : List (Nat × Instr × Nat) := [(0, .aload_n 0, 1), (1, .iconst 0, 1), (2, .putfield 75, 3), (5, .aload_n 0, 1), (6, .getfield 84, 3), (9, .istore_n 1, 1), (10, .aload_n 0, 1), (11, .iconst 0, 1), (12, .putfield 84, 3), (15, .iload_n 1, 1), (16, .ireturn, 1)]
theorem dm_Mo_wipe_0 : dl_Mo_wipe_0.all (fun q => decide (decode cd_Mo_wipe q.1 = .ok (q.2.1, q.2.2))) = true := by decide +kernel
theorem dc_Mo_wipe_0 : decode cd_Mo_wipe 0 = .ok (.aload_n 0, 1) := dq_at (q := (0, .aload_n 0, 1)) dm_Mo_wipe_0 0 rfl
theorem dc_Mo_wipe_1 : decode cd_Mo_wipe 1 = .ok (.iconst 0, 1) := dq_at (q := (1, .iconst 0, 1)) dm_Mo_wipe_0 1 rfl
theorem dc_Mo_wipe_2 : decode cd_Mo_wipe 2 = .ok (.putfield 75, 3) := dq_at (q := (2, .putfield 75, 3)) dm_Mo_wipe_0 2 rfl
theorem dc_Mo_wipe_5 : decode cd_Mo_wipe 5 = .ok (.aload_n 0, 1) := dq_at (q := (5, .aload_n 0, 1)) dm_Mo_wipe_0 3 rfl
theorem dc_Mo_wipe_6 : decode cd_Mo_wipe 6 = .ok (.getfield 84, 3) := dq_at (q := (6, .getfield 84, 3)) dm_Mo_wipe_0 4 rfl
theorem dc_Mo_wipe_9 : decode cd_Mo_wipe 9 = .ok (.istore_n 1, 1) := dq_at (q := (9, .istore_n 1, 1)) dm_Mo_wipe_0 5 rfl
theorem dc_Mo_wipe_10 : decode cd_Mo_wipe 10 = .ok (.aload_n 0, 1) := dq_at (q := (10, .aload_n 0, 1)) dm_Mo_wipe_0 6 rfl
theorem dc_Mo_wipe_11 : decode cd_Mo_wipe 11 = .ok (.iconst 0, 1) := dq_at (q := (11, .iconst 0, 1)) dm_Mo_wipe_0 7 rfl
theorem dc_Mo_wipe_12 : decode cd_Mo_wipe 12 = .ok (.putfield 84, 3) := dq_at (q := (12, .putfield 84, 3)) dm_Mo_wipe_0 8 rfl
theorem dc_Mo_wipe_15 : decode cd_Mo_wipe 15 = .ok (.iload_n 1, 1) := dq_at (q := (15, .iload_n 1, 1)) dm_Mo_wipe_0 9 rfl
theorem dc_Mo_wipe_16 : decode cd_Mo_wipe 16 = .ok (.ireturn, 1) := dq_at (q := (16, .ireturn, 1)) dm_Mo_wipe_0 10 rfl
def dl_Mo_read_0 : List (Nat × Instr × Nat) := [(0, .aload_n 0, 1), (1, .iload_n 1, 1), (2, .invokestatic 87, 3), (5, .ifCond .eq 7, 3), (8, .iconst 1, 1), (9, .goto 4, 3), (12, .iconst 0, 1), (13, .putfield 75, 3), (16, .aload_n 0, 1), (17, .getfield 75, 3), (20, .ifCond .le 5, 3), (23, .iconst 0, 1), (24, .ireturn, 1), (25, .iconst 0, 1), (26, .istore_n 2, 1), (27, .iconst 0, 1), (28, .istore_n 3, 1), (29, .iconst 0, 1), (30, .istore 4, 2), (32, .iconst 0, 1), (33, .istore 5, 2), (35, .iload 5, 2), (37, .aload_n 0, 1), (38, .getfield 84, 3), (41, .if_icmp .ge 143, 3), (44, .aload_n 0, 1), (45, .getfield 23, 3), (48, .iload 5, 2), (50, .iaload, 1), (51, .istore 6, 2), (53, .iload 6, 2), (55, .bipush 48, 2), (57, .isub, 1), (58, .istore 7, 2), (60, .iload 7, 2), (62, .iconst 1, 1), (63, .if_icmp .lt 56, 3), (66, .iload 7, 2), (68, .aload_n 0, 1), (69, .getfield 7, 3), (72, .if_icmp .gt 47, 3), (75, .iload_n 3, 1), (76, .iload 7, 2), (78, .ishr, 1), (79, .iconst 1, 1), (80, .iand, 1), (81, .ifCond .ne 38, 3), (84, .aload_n 0, 1), (85, .getfield 45, 3), (88, .iload_n 2, 1), (89, .iload 4, 2), (91, .ifCond .ge 9, 3), (94, .iload 7, 2), (96, .ineg, 1), (97, .goto 5, 3), (100, .iload 7, 2), (102, .iastore, 1), (103, .iinc 2 1, 3), (106, .iload_n 3, 1), (107, .iconst 1, 1)]
theorem dm_Mo_read_0 : dl_Mo_read_0.all (fun q => decide (decode cd_Mo_read q.1 = .ok (q.2.1, q.2.2))) = true := by decide +kernel
theorem dc_Mo_read_0 : decode cd_Mo_read 0 = .ok (.aload_n 0, 1) := dq_at (q := (0, .aload_n 0, 1)) dm_Mo_read_0 0 rfl
theorem dc_Mo_read_1 : decode cd_Mo_read 1 = .ok (.iload_n 1, 1) := dq_at (q := (1, .iload_n 1, 1)) dm_Mo_read_0 1 rfl
theorem dc_Mo_read_2 : decode cd_Mo_read 2 = .ok (.invokestatic 87, 3) := dq_at (q := (2, .invokestatic 87, 3)) dm_Mo_read_0 2 rfl
theorem dc_Mo_read_5 : decode cd_Mo_read 5 = .ok (.ifCond .eq 7, 3) := dq_at (q := (5, .ifCond .eq 7, 3)) dm_Mo_read_0 3 rfl
theorem dc_Mo_read_8 : decode cd_Mo_read 8 = .ok (.iconst 1, 1) := dq_at (q := (8, .iconst 1, 1)) dm_Mo_read_0 4 rfl
theorem dc_Mo_read_9 : decode cd_Mo_read 9 = .ok (.goto 4, 3) := dq_at (q := (9, .goto 4, 3)) dm_Mo_read_0 5 rfl
theorem dc_Mo_read_12 : decode cd_Mo_read 12 = .ok (.iconst 0, 1) := dq_at (q := (12, .iconst 0, 1)) dm_Mo_read_0 6 rfl
theorem dc_Mo_read_13 : decode cd_Mo_read 13 = .ok (.putfield 75, 3) := dq_at (q := (13, .putfield 75, 3)) dm_Mo_read_0 7 rfl
theorem dc_Mo_read_16 : decode cd_Mo_read 16 = .ok (.aload_n 0, 1) := dq_at (q := (16, .aload_n 0, 1)) dm_Mo_read_0 8 rfl
theorem dc_Mo_read_17 : decode cd_Mo_read 17 = .ok (.getfield 75, 3) := dq_at (q := (17, .getfield 75, 3)) dm_Mo_read_0 9 rfl
theorem dc_Mo_read_20 : decode cd_Mo_read 20 = .ok (.ifCond .le 5, 3) := dq_at (q := (20, .ifCond .le 5, 3)) dm_Mo_read_0 10 rfl
theorem dc_Mo_read_23 : decode cd_Mo_read 23 = .ok (.iconst 0, 1) := dq_at (q := (23, .iconst 0, 1)) dm_Mo_read_0 11 rfl
theorem dc_Mo_read_24 : decode cd_Mo_read 24 = .ok (.ireturn, 1) := dq_at (q := (24, .ireturn, 1)) dm_Mo_read_0 12 rfl
theorem dc_Mo_read_25 : decode cd_Mo_read 25 = .ok (.iconst 0, 1) := dq_at (q := (25, .iconst 0, 1)) dm_Mo_read_0 13 rfl
theorem dc_Mo_read_26 : decode cd_Mo_read 26 = .ok (.istore_n 2, 1) := dq_at (q := (26, .istore_n 2, 1)) dm_Mo_read_0 14 rfl
theorem dc_Mo_read_27 : decode cd_Mo_read 27 = .ok (.iconst 0, 1) := dq_at (q := (27, .iconst 0, 1)) dm_Mo_read_0 15 rfl
theorem dc_Mo_read_28 : decode cd_Mo_read 28 = .ok (.istore_n 3, 1) := dq_at (q := (28, .istore_n 3, 1)) dm_Mo_read_0 16 rfl
theorem dc_Mo_read_29 : decode cd_Mo_read 29 = .ok (.iconst 0, 1) := dq_at (q := (29, .iconst 0, 1)) dm_Mo_read_0 17 rfl
theorem dc_Mo_read_30 : decode cd_Mo_read 30 = .ok (.istore 4, 2) := dq_at (q := (30, .istore 4, 2)) dm_Mo_read_0 18 rfl
theorem dc_Mo_read_32 : decode cd_Mo_read 32 = .ok (.iconst 0, 1) := dq_at (q := (32, .iconst 0, 1)) dm_Mo_read_0 19 rfl
theorem dc_Mo_read_33 : decode cd_Mo_read 33 = .ok (.istore 5, 2) := dq_at (q := (33, .istore 5, 2)) dm_Mo_read_0 20 rfl
theorem dc_Mo_read_35 : decode cd_Mo_read 35 = .ok (.iload 5, 2) := dq_at (q := (35, .iload 5, 2)) dm_Mo_read_0 21 rfl
theorem dc_Mo_read_37 : decode cd_Mo_read 37 = .ok (.aload_n 0, 1) := dq_at (q := (37, .aload_n 0, 1)) dm_Mo_read_0 22 rfl
theorem dc_Mo_read_38 : decode cd_Mo_read 38 = .ok (.getfield 84, 3) := dq_at (q := (38, .getfield 84, 3)) dm_Mo_read_0 23 rfl
theorem dc_Mo_read_41 : decode cd_Mo_read 41 = .ok (.if_icmp .ge 143, 3) := dq_at (q := (41, .if_icmp .ge 143, 3)) dm_Mo_read_0 24 rfl
theorem dc_Mo_read_44 : decode cd_Mo_read 44 = .ok (.aload_n 0, 1) := dq_at (q := (44, .aload_n 0, 1)) dm_Mo_read_0 25 rfl
theorem dc_Mo_read_45 : decode cd_Mo_read 45 = .ok (.getfield 23, 3) := dq_at (q := (45, .getfield 23, 3)) dm_Mo_read_0 26 rfl
theorem dc_Mo_read_48 : decode cd_Mo_read 48 = .ok (.iload 5, 2) := dq_at (q := (48, .iload 5, 2)) dm_Mo_read_0 27 rfl
theorem dc_Mo_read_50 : decode cd_Mo_read 50 = .ok (.iaload, 1) := dq_at (q := (50, .iaload, 1)) dm_Mo_read_0 28 rfl
theorem dc_Mo_read_51 : decode cd_Mo_read 51 = .ok (.istore 6, 2) := dq_at (q := (51, .istore 6, 2)) dm_Mo_read_0 29 rfl
theorem dc_Mo_read_53 : decode cd_Mo_read 53 = .ok (.iload 6, 2) := dq_at (q := (53, .iload 6, 2)) dm_Mo_read_0 30 rfl
theorem dc_Mo_read_55 : decode cd_Mo_read 55 = .ok (.bipush 48, 2) := dq_at (q := (55, .bipush 48, 2)) dm_Mo_read_0 31 rfl
theorem dc_Mo_read_57 : decode cd_Mo_read 57 = .ok (.isub, 1) := dq_at (q := (57, .isub, 1)) dm_Mo_read_0 32 rfl
theorem dc_Mo_read_58 : decode cd_Mo_read 58 = .ok (.istore 7, 2) := dq_at (q := (58, .istore 7, 2)) dm_Mo_read_0 33 rfl
theorem dc_Mo_read_60 : decode cd_Mo_read 60 = .ok (.iload 7, 2) := dq_at (q := (60, .iload 7, 2)) dm_Mo_read_0 34 rfl
theorem dc_Mo_read_62 : decode cd_Mo_read 62 = .ok (.iconst 1, 1) := dq_at (q := (62, .iconst 1, 1)) dm_Mo_read_0 35 rfl
theorem dc_Mo_read_63 : decode cd_Mo_read 63 = .ok (.if_icmp .lt 56, 3) := dq_at (q := (63, .if_icmp .lt 56, 3)) dm_Mo_read_0 36 rfl
theorem dc_Mo_read_66 : decode cd_Mo_read 66 = .ok (.iload 7, 2) := dq_at (q := (66, .iload 7, 2)) dm_Mo_read_0 37 rfl
theorem dc_Mo_read_68 : decode cd_Mo_read 68 = .ok (.aload_n 0, 1) := dq_at (q := (68, .aload_n 0, 1)) dm_Mo_read_0 38 rfl
theorem dc_Mo_read_69 : decode cd_Mo_read 69 = .ok (.getfield 7, 3) := dq_at (q := (69, .getfield 7, 3)) dm_Mo_read_0 39 rfl
theorem dc_Mo_read_72 : decode cd_Mo_read 72 = .ok (.if_icmp .gt 47, 3) := dq_at (q := (72, .if_icmp .gt 47, 3)) dm_Mo_read_0 40 rfl
theorem dc_Mo_read_75 : decode cd_Mo_read 75 = .ok (.iload_n 3, 1) := dq_at (q := (75, .iload_n 3, 1)) dm_Mo_read_0 41 rfl
theorem dc_Mo_read_76 : decode cd_Mo_read 76 = .ok (.iload 7, 2) := dq_at (q := (76, .iload 7, 2)) dm_Mo_read_0 42 rfl
theorem dc_Mo_read_78 : decode cd_Mo_read 78 = .ok (.ishr, 1) := dq_at (q := (78, .ishr, 1)) dm_Mo_read_0 43 rfl
theorem dc_Mo_read_79 : decode cd_Mo_read 79 = .ok (.iconst 1, 1) := dq_at (q := (79, .iconst 1, 1)) dm_Mo_read_0 44 rfl
theorem dc_Mo_read_80 : decode cd_Mo_read 80 = .ok (.iand, 1) := dq_at (q := (80, .iand, 1)) dm_Mo_read_0 45 rfl
theorem dc_Mo_read_81 : decode cd_Mo_read 81 = .ok (.ifCond .ne 38, 3) := dq_at (q := (81, .ifCond .ne 38, 3)) dm_Mo_read_0 46 rfl
theorem dc_Mo_read_84 : decode cd_Mo_read 84 = .ok (.aload_n 0, 1) := dq_at (q := (84, .aload_n 0, 1)) dm_Mo_read_0 47 rfl
theorem dc_Mo_read_85 : decode cd_Mo_read 85 = .ok (.getfield 45, 3) := dq_at (q := (85, .getfield 45, 3)) dm_Mo_read_0 48 rfl
theorem dc_Mo_read_88 : decode cd_Mo_read 88 = .ok (.iload_n 2, 1) := dq_at (q := (88, .iload_n 2, 1)) dm_Mo_read_0 49 rfl
theorem dc_Mo_read_89 : decode cd_Mo_read 89 = .ok (.iload 4, 2) := dq_at (q := (89, .iload 4, 2)) dm_Mo_read_0 50 rfl
theorem dc_Mo_read_91 : decode cd_Mo_read 91 = .ok (.ifCond .ge 9, 3) := dq_at (q := (91, .ifCond .ge 9, 3)) dm_Mo_read_0 51 rfl
theorem dc_Mo_read_94 : decode cd_Mo_read 94 = .ok (.iload 7, 2) := dq_at (q := (94, .iload 7, 2)) dm_Mo_read_0 52 rfl
theorem dc_Mo_read_96 : decode cd_Mo_read 96 = .ok (.ineg, 1) := dq_at (q := (96, .ineg, 1)) dm_Mo_read_0 53 rfl
theorem dc_Mo_read_97 : decode cd_Mo_read 97 = .ok (.goto 5, 3) := dq_at (q := (97, .goto 5, 3)) dm_Mo_read_0 54 rfl
theorem dc_Mo_read_100 : decode cd_Mo_read 100 = .ok (.iload 7, 2) := dq_at (q := (100, .iload 7, 2)) dm_Mo_read_0 55 rfl
theorem dc_Mo_read_102 : decode cd_Mo_read 102 = .ok (.iastore, 1) := dq_at (q := (102, .iastore, 1)) dm_Mo_read_0 56 rfl
theorem dc_Mo_read_103 : decode cd_Mo_read 103 = .ok (.iinc 2 1, 3) := dq_at (q := (103, .iinc 2 1, 3)) dm_Mo_read_0 57 rfl
theorem dc_Mo_read_106 : decode cd_Mo_read 106 = .ok (.iload_n 3, 1) := dq_at (q := (106, .iload_n 3, 1)) dm_Mo_read_0 58 rfl
theorem dc_Mo_read_107 : decode cd_Mo_read 107 = .ok (.iconst 1, 1) := dq_at (q := (107, .iconst 1, 1)) dm_Mo_read_0 59 rfl
def dl_Mo_read_60 : List (Nat × Instr × Nat) := [(108, .iload 7, 2), (110, .ishl, 1), (111, .ior, 1), (112, .istore_n 3, 1), (113, .iconst 0, 1), (114, .istore 4, 2), (116, .goto 62, 3), (119, .iload 6, 2), (121, .bipush 43, 2), (123, .if_icmp .eq 10, 3), (126, .iload 6, 2), (128, .bipush 45, 2), (130, .if_icmp .ne 33, 3), (133, .iload 4, 2), (135, .ifCond .ne 28, 3), (138, .iload_n 2, 1), (139, .aload_n 0, 1), (140, .getfield 7, 3), (143, .if_icmp .ge 20, 3), (146, .iload 6, 2), (148, .bipush 43, 2), (150, .if_icmp .ne 7, 3), (153, .iconst 1, 1), (154, .goto 4, 3), (157, .iconst (-1), 1), (158, .istore 4, 2), (160, .goto 18, 3), (163, .iload 6, 2), (165, .bipush 32, 2), (167, .if_icmp .ne 8, 3), (170, .iload 4, 2), (172, .ifCond .eq 6, 3), (175, .iload 5, 2), (177, .ireturn, 1), (178, .iinc 5 1, 3), (181, .goto (-146), 3), (184, .iload_n 2, 1), (185, .aload_n 0, 1), (186, .getfield 7, 3), (189, .if_icmp .ge 8, 3), (192, .aload_n 0, 1), (193, .getfield 84, 3), (196, .ireturn, 1), (197, .iconst 0, 1), (198, .istore 5, 2), (200, .iload 5, 2), (202, .aload_n 0, 1), (203, .getfield 7, 3), (206, .if_icmp .ge 28, 3), (209, .aload_n 0, 1), (210, .getfield 13, 3), (213, .bipush 6, 2), (215, .iload_n 1, 1), (216, .imul, 1), (217, .iload 5, 2), (219, .iadd, 1), (220, .aload_n 0, 1), (221, .getfield 45, 3), (224, .iload 5, 2), (226, .iaload, 1)]
theorem dm_Mo_read_60 : dl_Mo_read_60.all (fun q => decide (decode cd_Mo_read q.1 = .ok (q.2.1, q.2.2))) = true := by decide +kernel
theorem dc_Mo_read_108 : decode cd_Mo_read 108 = .ok (.iload 7, 2) := dq_at (q := (108, .iload 7, 2)) dm_Mo_read_60 0 rfl
theorem dc_Mo_read_110 : decode cd_Mo_read 110 = .ok (.ishl, 1) := dq_at (q := (110, .ishl, 1)) dm_Mo_read_60 1 rfl
theorem dc_Mo_read_111 : decode cd_Mo_read 111 = .ok (.ior, 1) := dq_at (q := (111, .ior, 1)) dm_Mo_read_60 2 rfl
theorem dc_Mo_read_112 : decode cd_Mo_read 112 = .ok (.istore_n 3, 1) := dq_at (q := (112, .istore_n 3, 1)) dm_Mo_read_60 3 rfl
theorem dc_Mo_read_113 : decode cd_Mo_read 113 = .ok (.iconst 0, 1) := dq_at (q := (113, .iconst 0, 1)) dm_Mo_read_60 4 rfl
theorem dc_Mo_read_114 : decode cd_Mo_read 114 = .ok (.istore 4, 2) := dq_at (q := (114, .istore 4, 2)) dm_Mo_read_60 5 rfl
theorem dc_Mo_read_116 : decode cd_Mo_read 116 = .ok (.goto 62, 3) := dq_at (q := (116, .goto 62, 3)) dm_Mo_read_60 6 rfl
theorem dc_Mo_read_119 : decode cd_Mo_read 119 = .ok (.iload 6, 2) := dq_at (q := (119, .iload 6, 2)) dm_Mo_read_60 7 rfl
theorem dc_Mo_read_121 : decode cd_Mo_read 121 = .ok (.bipush 43, 2) := dq_at (q := (121, .bipush 43, 2)) dm_Mo_read_60 8 rfl
theorem dc_Mo_read_123 : decode cd_Mo_read 123 = .ok (.if_icmp .eq 10, 3) := dq_at (q := (123, .if_icmp .eq 10, 3)) dm_Mo_read_60 9 rfl
theorem dc_Mo_read_126 : decode cd_Mo_read 126 = .ok (.iload 6, 2) := dq_at (q := (126, .iload 6, 2)) dm_Mo_read_60 10 rfl
theorem dc_Mo_read_128 : decode cd_Mo_read 128 = .ok (.bipush 45, 2) := dq_at (q := (128, .bipush 45, 2)) dm_Mo_read_60 11 rfl
theorem dc_Mo_read_130 : decode cd_Mo_read 130 = .ok (.if_icmp .ne 33, 3) := dq_at (q := (130, .if_icmp .ne 33, 3)) dm_Mo_read_60 12 rfl
theorem dc_Mo_read_133 : decode cd_Mo_read 133 = .ok (.iload 4, 2) := dq_at (q := (133, .iload 4, 2)) dm_Mo_read_60 13 rfl
theorem dc_Mo_read_135 : decode cd_Mo_read 135 = .ok (.ifCond .ne 28, 3) := dq_at (q := (135, .ifCond .ne 28, 3)) dm_Mo_read_60 14 rfl
theorem dc_Mo_read_138 : decode cd_Mo_read 138 = .ok (.iload_n 2, 1) := dq_at (q := (138, .iload_n 2, 1)) dm_Mo_read_60 15 rfl
theorem dc_Mo_read_139 : decode cd_Mo_read 139 = .ok (.aload_n 0, 1) := dq_at (q := (139, .aload_n 0, 1)) dm_Mo_read_60 16 rfl
theorem dc_Mo_read_140 : decode cd_Mo_read 140 = .ok (.getfield 7, 3) := dq_at (q := (140, .getfield 7, 3)) dm_Mo_read_60 17 rfl
theorem dc_Mo_read_143 : decode cd_Mo_read 143 = .ok (.if_icmp .ge 20, 3) := dq_at (q := (143, .if_icmp .ge 20, 3)) dm_Mo_read_60 18 rfl
theorem dc_Mo_read_146 : decode cd_Mo_read 146 = .ok (.iload 6, 2) := dq_at (q := (146, .iload 6, 2)) dm_Mo_read_60 19 rfl
theorem dc_Mo_read_148 : decode cd_Mo_read 148 = .ok (.bipush 43, 2) := dq_at (q := (148, .bipush 43, 2)) dm_Mo_read_60 20 rfl
theorem dc_Mo_read_150 : decode cd_Mo_read 150 = .ok (.if_icmp .ne 7, 3) := dq_at (q := (150, .if_icmp .ne 7, 3)) dm_Mo_read_60 21 rfl
theorem dc_Mo_read_153 : decode cd_Mo_read 153 = .ok (.iconst 1, 1) := dq_at (q := (153, .iconst 1, 1)) dm_Mo_read_60 22 rfl
theorem dc_Mo_read_154 : decode cd_Mo_read 154 = .ok (.goto 4, 3) := dq_at (q := (154, .goto 4, 3)) dm_Mo_read_60 23 rfl
theorem dc_Mo_read_157 : decode cd_Mo_read 157 = .ok (.iconst (-1), 1) := dq_at (q := (157, .iconst (-1), 1)) dm_Mo_read_60 24 rfl
theorem dc_Mo_read_158 : decode cd_Mo_read 158 = .ok (.istore 4, 2) := dq_at (q := (158, .istore 4, 2)) dm_Mo_read_60 25 rfl
theorem dc_Mo_read_160 : decode cd_Mo_read 160 = .ok (.goto 18, 3) := dq_at (q := (160, .goto 18, 3)) dm_Mo_read_60 26 rfl
theorem dc_Mo_read_163 : decode cd_Mo_read 163 = .ok (.iload 6, 2) := dq_at (q := (163, .iload 6, 2)) dm_Mo_read_60 27 rfl
theorem dc_Mo_read_165 : decode cd_Mo_read 165 = .ok (.bipush 32, 2) := dq_at (q := (165, .bipush 32, 2)) dm_Mo_read_60 28 rfl
theorem dc_Mo_read_167 : decode cd_Mo_read 167 = .ok (.if_icmp .ne 8, 3) := dq_at (q := (167, .if_icmp .ne 8, 3)) dm_Mo_read_60 29 rfl
theorem dc_Mo_read_170 : decode cd_Mo_read 170 = .ok (.iload 4, 2) := dq_at (q := (170, .iload 4, 2)) dm_Mo_read_60 30 rfl
theorem dc_Mo_read_172 : decode cd_Mo_read 172 = .ok (.ifCond .eq 6, 3) := dq_at (q := (172, .ifCond .eq 6, 3)) dm_Mo_read_60 31 rfl
theorem dc_Mo_read_175 : decode cd_Mo_read 175 = .ok (.iload 5, 2) := dq_at (q := (175, .iload 5, 2)) dm_Mo_read_60 32 rfl
theorem dc_Mo_read_177 : decode cd_Mo_read 177 = .ok (.ireturn, 1) := dq_at (q := (177, .ireturn, 1)) dm_Mo_read_60 33 rfl
theorem dc_Mo_read_178 : decode cd_Mo_read 178 = .ok (.iinc 5 1, 3) := dq_at (q := (178, .iinc 5 1, 3)) dm_Mo_read_60 34 rfl
theorem dc_Mo_read_181 : decode cd_Mo_read 181 = .ok (.goto (-146), 3) := dq_at (q := (181, .goto (-146), 3)) dm_Mo_read_60 35 rfl
theorem dc_Mo_read_184 : decode cd_Mo_read 184 = .ok (.iload_n 2, 1) := dq_at (q := (184, .iload_n 2, 1)) dm_Mo_read_60 36 rfl
theorem dc_Mo_read_185 : decode cd_Mo_read 185 = .ok (.aload_n 0, 1) := dq_at (q := (185, .aload_n 0, 1)) dm_Mo_read_60 37 rfl
theorem dc_Mo_read_186 : decode cd_Mo_read 186 = .ok (.getfield 7, 3) := dq_at (q := (186, .getfield 7, 3)) dm_Mo_read_60 38 rfl
theorem dc_Mo_read_189 : decode cd_Mo_read 189 = .ok (.if_icmp .ge 8, 3) := dq_at (q := (189, .if_icmp .ge 8, 3)) dm_Mo_read_60 39 rfl
theorem dc_Mo_read_192 : decode cd_Mo_read 192 = .ok (.aload_n 0, 1) := dq_at (q := (192, .aload_n 0, 1)) dm_Mo_read_60 40 rfl
theorem dc_Mo_read_193 : decode cd_Mo_read 193 = .ok (.getfield 84, 3) := dq_at (q := (193, .getfield 84, 3)) dm_Mo_read_60 41 rfl
theorem dc_Mo_read_196 : decode cd_Mo_read 196 = .ok (.ireturn, 1) := dq_at (q := (196, .ireturn, 1)) dm_Mo_read_60 42 rfl
theorem dc_Mo_read_197 : decode cd_Mo_read 197 = .ok (.iconst 0, 1) := dq_at (q := (197, .iconst 0, 1)) dm_Mo_read_60 43 rfl
theorem dc_Mo_read_198 : decode cd_Mo_read 198 = .ok (.istore 5, 2) := dq_at (q := (198, .istore 5, 2)) dm_Mo_read_60 44 rfl
theorem dc_Mo_read_200 : decode cd_Mo_read 200 = .ok (.iload 5, 2) := dq_at (q := (200, .iload 5, 2)) dm_Mo_read_60 45 rfl
theorem dc_Mo_read_202 : decode cd_Mo_read 202 = .ok (.aload_n 0, 1) := dq_at (q := (202, .aload_n 0, 1)) dm_Mo_read_60 46 rfl
theorem dc_Mo_read_203 : decode cd_Mo_read 203 = .ok (.getfield 7, 3) := dq_at (q := (203, .getfield 7, 3)) dm_Mo_read_60 47 rfl
theorem dc_Mo_read_206 : decode cd_Mo_read 206 = .ok (.if_icmp .ge 28, 3) := dq_at (q := (206, .if_icmp .ge 28, 3)) dm_Mo_read_60 48 rfl
theorem dc_Mo_read_209 : decode cd_Mo_read 209 = .ok (.aload_n 0, 1) := dq_at (q := (209, .aload_n 0, 1)) dm_Mo_read_60 49 rfl
theorem dc_Mo_read_210 : decode cd_Mo_read 210 = .ok (.getfield 13, 3) := dq_at (q := (210, .getfield 13, 3)) dm_Mo_read_60 50 rfl
theorem dc_Mo_read_213 : decode cd_Mo_read 213 = .ok (.bipush 6, 2) := dq_at (q := (213, .bipush 6, 2)) dm_Mo_read_60 51 rfl
theorem dc_Mo_read_215 : decode cd_Mo_read 215 = .ok (.iload_n 1, 1) := dq_at (q := (215, .iload_n 1, 1)) dm_Mo_read_60 52 rfl
theorem dc_Mo_read_216 : decode cd_Mo_read 216 = .ok (.imul, 1) := dq_at (q := (216, .imul, 1)) dm_Mo_read_60 53 rfl
theorem dc_Mo_read_217 : decode cd_Mo_read 217 = .ok (.iload 5, 2) := dq_at (q := (217, .iload 5, 2)) dm_Mo_read_60 54 rfl
theorem dc_Mo_read_219 : decode cd_Mo_read 219 = .ok (.iadd, 1) := dq_at (q := (219, .iadd, 1)) dm_Mo_read_60 55 rfl
theorem dc_Mo_read_220 : decode cd_Mo_read 220 = .ok (.aload_n 0, 1) := dq_at (q := (220, .aload_n 0, 1)) dm_Mo_read_60 56 rfl
theorem dc_Mo_read_221 : decode cd_Mo_read 221 = .ok (.getfield 45, 3) := dq_at (q := (221, .getfield 45, 3)) dm_Mo_read_60 57 rfl
theorem dc_Mo_read_224 : decode cd_Mo_read 224 = .ok (.iload 5, 2) := dq_at (q := (224, .iload 5, 2)) dm_Mo_read_60 58 rfl
theorem dc_Mo_read_226 : decode cd_Mo_read 226 = .ok (.iaload, 1) := dq_at (q := (226, .iaload, 1)) dm_Mo_read_60 59 rfl
def dl_Mo_read_120 : List (Nat × Instr × Nat) := [(227, .iastore, 1), (228, .iinc 5 1, 3), (231, .goto (-31), 3), (234, .aload_n 0, 1), (235, .getfield 17, 3), (238, .iload_n 1, 1), (239, .iconst 0, 1), (240, .iastore, 1), (241, .aload_n 0, 1), (242, .iconst 0, 1), (243, .putfield 84, 3), (246, .iconst (-1), 1), (247, .ireturn, 1)]
theorem dm_Mo_read_120 : dl_Mo_read_120.all (fun q => decide (decode cd_Mo_read q.1 = .ok (q.2.1, q.2.2))) = true := by decide +kernel
theorem dc_Mo_read_227 : decode cd_Mo_read 227 = .ok (.iastore, 1) := dq_at (q := (227, .iastore, 1)) dm_Mo_read_120 0 rfl
theorem dc_Mo_read_228 : decode cd_Mo_read 228 = .ok (.iinc 5 1, 3) := dq_at (q := (228, .iinc 5 1, 3)) dm_Mo_read_120 1 rfl
theorem dc_Mo_read_231 : decode cd_Mo_read 231 = .ok (.goto (-31), 3) := dq_at (q := (231, .goto (-31), 3)) dm_Mo_read_120 2 rfl
theorem dc_Mo_read_234 : decode cd_Mo_read 234 = .ok (.aload_n 0, 1) := dq_at (q := (234, .aload_n 0, 1)) dm_Mo_read_120 3 rfl
theorem dc_Mo_read_235 : decode cd_Mo_read 235 = .ok (.getfield 17, 3) := dq_at (q := (235, .getfield 17, 3)) dm_Mo_read_120 4 rfl
theorem dc_Mo_read_238 : decode cd_Mo_read 238 = .ok (.iload_n 1, 1) := dq_at (q := (238, .iload_n 1, 1)) dm_Mo_read_120 5 rfl
theorem dc_Mo_read_239 : decode cd_Mo_read 239 = .ok (.iconst 0, 1) := dq_at (q := (239, .iconst 0, 1)) dm_Mo_read_120 6 rfl
theorem dc_Mo_read_240 : decode cd_Mo_read 240 = .ok (.iastore, 1) := dq_at (q := (240, .iastore, 1)) dm_Mo_read_120 7 rfl
theorem dc_Mo_read_241 : decode cd_Mo_read 241 = .ok (.aload_n 0, 1) := dq_at (q := (241, .aload_n 0, 1)) dm_Mo_read_120 8 rfl
theorem dc_Mo_read_242 : decode cd_Mo_read 242 = .ok (.iconst 0, 1) := dq_at (q := (242, .iconst 0, 1)) dm_Mo_read_120 9 rfl
theorem dc_Mo_read_243 : decode cd_Mo_read 243 = .ok (.putfield 84, 3) := dq_at (q := (243, .putfield 84, 3)) dm_Mo_read_120 10 rfl
theorem dc_Mo_read_246 : decode cd_Mo_read 246 = .ok (.iconst (-1), 1) := dq_at (q := (246, .iconst (-1), 1)) dm_Mo_read_120 11 rfl
theorem dc_Mo_read_247 : decode cd_Mo_read 247 = .ok (.ireturn, 1) := dq_at (q := (247, .ireturn, 1)) dm_Mo_read_120 12 rfl
def dl_Mo_gene_0 : List (Nat × Instr × Nat) := [(0, .aload_n 0, 1), (1, .iload_n 1, 1), (2, .invokestatic 87, 3), (5, .ifCond .ne 15, 3), (8, .iload_n 2, 1), (9, .ifCond .lt 11, 3), (12, .iload_n 2, 1), (13, .aload_n 0, 1), (14, .getfield 7, 3), (17, .if_icmp .lt 7, 3), (20, .iconst 1, 1), (21, .goto 4, 3), (24, .iconst 0, 1), (25, .putfield 75, 3), (28, .aload_n 0, 1), (29, .getfield 75, 3), (32, .ifCond .le 7, 3), (35, .iconst 0, 1), (36, .goto 14, 3), (39, .aload_n 0, 1), (40, .getfield 13, 3), (43, .bipush 6, 2), (45, .iload_n 1, 1), (46, .imul, 1), (47, .iload_n 2, 1), (48, .iadd, 1), (49, .iaload, 1), (50, .ireturn, 1)]
theorem dm_Mo_gene_0 : dl_Mo_gene_0.all (fun q => decide (decode cd_Mo_gene q.1 = .ok (q.2.1, q.2.2))) = true := by decide +kernel
theorem dc_Mo_gene_0 : decode cd_Mo_gene 0 = .ok (.aload_n 0, 1) := dq_at (q := (0, .aload_n 0, 1)) dm_Mo_gene_0 0 rfl
theorem dc_Mo_gene_1 : decode cd_Mo_gene 1 = .ok (.iload_n 1, 1) := dq_at (q := (1, .iload_n 1, 1)) dm_Mo_gene_0 1 rfl
theorem dc_Mo_gene_2 : decode cd_Mo_gene 2 = .ok (.invokestatic 87, 3) := dq_at (q := (2, .invokestatic 87, 3)) dm_Mo_gene_0 2 rfl
theorem dc_Mo_gene_5 : decode cd_Mo_gene 5 = .ok (.ifCond .ne 15, 3) := dq_at (q := (5, .ifCond .ne 15, 3)) dm_Mo_gene_0 3 rfl
theorem dc_Mo_gene_8 : decode cd_Mo_gene 8 = .ok (.iload_n 2, 1) := dq_at (q := (8, .iload_n 2, 1)) dm_Mo_gene_0 4 rfl
theorem dc_Mo_gene_9 : decode cd_Mo_gene 9 = .ok (.ifCond .lt 11, 3) := dq_at (q := (9, .ifCond .lt 11, 3)) dm_Mo_gene_0 5 rfl
theorem dc_Mo_gene_12 : decode cd_Mo_gene 12 = .ok (.iload_n 2, 1) := dq_at (q := (12, .iload_n 2, 1)) dm_Mo_gene_0 6 rfl
theorem dc_Mo_gene_13 : decode cd_Mo_gene 13 = .ok (.aload_n 0, 1) := dq_at (q := (13, .aload_n 0, 1)) dm_Mo_gene_0 7 rfl
theorem dc_Mo_gene_14 : decode cd_Mo_gene 14 = .ok (.getfield 7, 3) := dq_at (q := (14, .getfield 7, 3)) dm_Mo_gene_0 8 rfl
theorem dc_Mo_gene_17 : decode cd_Mo_gene 17 = .ok (.if_icmp .lt 7, 3) := dq_at (q := (17, .if_icmp .lt 7, 3)) dm_Mo_gene_0 9 rfl
theorem dc_Mo_gene_20 : decode cd_Mo_gene 20 = .ok (.iconst 1, 1) := dq_at (q := (20, .iconst 1, 1)) dm_Mo_gene_0 10 rfl
theorem dc_Mo_gene_21 : decode cd_Mo_gene 21 = .ok (.goto 4, 3) := dq_at (q := (21, .goto 4, 3)) dm_Mo_gene_0 11 rfl
theorem dc_Mo_gene_24 : decode cd_Mo_gene 24 = .ok (.iconst 0, 1) := dq_at (q := (24, .iconst 0, 1)) dm_Mo_gene_0 12 rfl
theorem dc_Mo_gene_25 : decode cd_Mo_gene 25 = .ok (.putfield 75, 3) := dq_at (q := (25, .putfield 75, 3)) dm_Mo_gene_0 13 rfl
theorem dc_Mo_gene_28 : decode cd_Mo_gene 28 = .ok (.aload_n 0, 1) := dq_at (q := (28, .aload_n 0, 1)) dm_Mo_gene_0 14 rfl
theorem dc_Mo_gene_29 : decode cd_Mo_gene 29 = .ok (.getfield 75, 3) := dq_at (q := (29, .getfield 75, 3)) dm_Mo_gene_0 15 rfl
theorem dc_Mo_gene_32 : decode cd_Mo_gene 32 = .ok (.ifCond .le 7, 3) := dq_at (q := (32, .ifCond .le 7, 3)) dm_Mo_gene_0 16 rfl
theorem dc_Mo_gene_35 : decode cd_Mo_gene 35 = .ok (.iconst 0, 1) := dq_at (q := (35, .iconst 0, 1)) dm_Mo_gene_0 17 rfl
theorem dc_Mo_gene_36 : decode cd_Mo_gene 36 = .ok (.goto 14, 3) := dq_at (q := (36, .goto 14, 3)) dm_Mo_gene_0 18 rfl
theorem dc_Mo_gene_39 : decode cd_Mo_gene 39 = .ok (.aload_n 0, 1) := dq_at (q := (39, .aload_n 0, 1)) dm_Mo_gene_0 19 rfl
theorem dc_Mo_gene_40 : decode cd_Mo_gene 40 = .ok (.getfield 13, 3) := dq_at (q := (40, .getfield 13, 3)) dm_Mo_gene_0 20 rfl
theorem dc_Mo_gene_43 : decode cd_Mo_gene 43 = .ok (.bipush 6, 2) := dq_at (q := (43, .bipush 6, 2)) dm_Mo_gene_0 21 rfl
theorem dc_Mo_gene_45 : decode cd_Mo_gene 45 = .ok (.iload_n 1, 1) := dq_at (q := (45, .iload_n 1, 1)) dm_Mo_gene_0 22 rfl
theorem dc_Mo_gene_46 : decode cd_Mo_gene 46 = .ok (.imul, 1) := dq_at (q := (46, .imul, 1)) dm_Mo_gene_0 23 rfl
theorem dc_Mo_gene_47 : decode cd_Mo_gene 47 = .ok (.iload_n 2, 1) := dq_at (q := (47, .iload_n 2, 1)) dm_Mo_gene_0 24 rfl
theorem dc_Mo_gene_48 : decode cd_Mo_gene 48 = .ok (.iadd, 1) := dq_at (q := (48, .iadd, 1)) dm_Mo_gene_0 25 rfl
theorem dc_Mo_gene_49 : decode cd_Mo_gene 49 = .ok (.iaload, 1) := dq_at (q := (49, .iaload, 1)) dm_Mo_gene_0 26 rfl
theorem dc_Mo_gene_50 : decode cd_Mo_gene 50 = .ok (.ireturn, 1) := dq_at (q := (50, .ireturn, 1)) dm_Mo_gene_0 27 rfl
def dl_Mo_copy_0 : List (Nat × Instr × Nat) := [(0, .aload_n 0, 1), (1, .iload_n 1, 1), (2, .invokestatic 87, 3), (5, .ifCond .ne 10, 3), (8, .iload_n 2, 1), (9, .invokestatic 87, 3), (12, .ifCond .eq 7, 3), (15, .iconst 1, 1), (16, .goto 4, 3), (19, .iconst 0, 1), (20, .putfield 75, 3), (23, .iconst 0, 1), (24, .istore_n 3, 1), (25, .iload_n 3, 1), (26, .aload_n 0, 1), (27, .getfield 7, 3), (30, .if_icmp .ge 38, 3), (33, .aload_n 0, 1), (34, .getfield 75, 3), (37, .ifCond .ne 31, 3), (40, .aload_n 0, 1), (41, .getfield 13, 3), (44, .bipush 6, 2), (46, .iload_n 2, 1), (47, .imul, 1), (48, .iload_n 3, 1), (49, .iadd, 1), (50, .aload_n 0, 1), (51, .getfield 13, 3), (54, .bipush 6, 2), (56, .iload_n 1, 1), (57, .imul, 1), (58, .iload_n 3, 1), (59, .iadd, 1), (60, .iaload, 1), (61, .iastore, 1), (62, .iinc 3 1, 3), (65, .goto (-40), 3), (68, .aload_n 0, 1), (69, .getfield 75, 3), (72, .ifCond .ne 10, 3), (75, .aload_n 0, 1), (76, .getfield 17, 3), (79, .iload_n 2, 1), (80, .iconst 0, 1), (81, .iastore, 1), (82, .return_, 1)]
theorem dm_Mo_copy_0 : dl_Mo_copy_0.all (fun q => decide (decode cd_Mo_copy q.1 = .ok (q.2.1, q.2.2))) = true := by decide +kernel
theorem dc_Mo_copy_0 : decode cd_Mo_copy 0 = .ok (.aload_n 0, 1) := dq_at (q := (0, .aload_n 0, 1)) dm_Mo_copy_0 0 rfl
theorem dc_Mo_copy_1 : decode cd_Mo_copy 1 = .ok (.iload_n 1, 1) := dq_at (q := (1, .iload_n 1, 1)) dm_Mo_copy_0 1 rfl
theorem dc_Mo_copy_2 : decode cd_Mo_copy 2 = .ok (.invokestatic 87, 3) := dq_at (q := (2, .invokestatic 87, 3)) dm_Mo_copy_0 2 rfl
theorem dc_Mo_copy_5 : decode cd_Mo_copy 5 = .ok (.ifCond .ne 10, 3) := dq_at (q := (5, .ifCond .ne 10, 3)) dm_Mo_copy_0 3 rfl
theorem dc_Mo_copy_8 : decode cd_Mo_copy 8 = .ok (.iload_n 2, 1) := dq_at (q := (8, .iload_n 2, 1)) dm_Mo_copy_0 4 rfl
theorem dc_Mo_copy_9 : decode cd_Mo_copy 9 = .ok (.invokestatic 87, 3) := dq_at (q := (9, .invokestatic 87, 3)) dm_Mo_copy_0 5 rfl
theorem dc_Mo_copy_12 : decode cd_Mo_copy 12 = .ok (.ifCond .eq 7, 3) := dq_at (q := (12, .ifCond .eq 7, 3)) dm_Mo_copy_0 6 rfl
theorem dc_Mo_copy_15 : decode cd_Mo_copy 15 = .ok (.iconst 1, 1) := dq_at (q := (15, .iconst 1, 1)) dm_Mo_copy_0 7 rfl
theorem dc_Mo_copy_16 : decode cd_Mo_copy 16 = .ok (.goto 4, 3) := dq_at (q := (16, .goto 4, 3)) dm_Mo_copy_0 8 rfl
theorem dc_Mo_copy_19 : decode cd_Mo_copy 19 = .ok (.iconst 0, 1) := dq_at (q := (19, .iconst 0, 1)) dm_Mo_copy_0 9 rfl
theorem dc_Mo_copy_20 : decode cd_Mo_copy 20 = .ok (.putfield 75, 3) := dq_at (q := (20, .putfield 75, 3)) dm_Mo_copy_0 10 rfl
theorem dc_Mo_copy_23 : decode cd_Mo_copy 23 = .ok (.iconst 0, 1) := dq_at (q := (23, .iconst 0, 1)) dm_Mo_copy_0 11 rfl
theorem dc_Mo_copy_24 : decode cd_Mo_copy 24 = .ok (.istore_n 3, 1) := dq_at (q := (24, .istore_n 3, 1)) dm_Mo_copy_0 12 rfl
theorem dc_Mo_copy_25 : decode cd_Mo_copy 25 = .ok (.iload_n 3, 1) := dq_at (q := (25, .iload_n 3, 1)) dm_Mo_copy_0 13 rfl
theorem dc_Mo_copy_26 : decode cd_Mo_copy 26 = .ok (.aload_n 0, 1) := dq_at (q := (26, .aload_n 0, 1)) dm_Mo_copy_0 14 rfl
theorem dc_Mo_copy_27 : decode cd_Mo_copy 27 = .ok (.getfield 7, 3) := dq_at (q := (27, .getfield 7, 3)) dm_Mo_copy_0 15 rfl
theorem dc_Mo_copy_30 : decode cd_Mo_copy 30 = .ok (.if_icmp .ge 38, 3) := dq_at (q := (30, .if_icmp .ge 38, 3)) dm_Mo_copy_0 16 rfl
theorem dc_Mo_copy_33 : decode cd_Mo_copy 33 = .ok (.aload_n 0, 1) := dq_at (q := (33, .aload_n 0, 1)) dm_Mo_copy_0 17 rfl
theorem dc_Mo_copy_34 : decode cd_Mo_copy 34 = .ok (.getfield 75, 3) := dq_at (q := (34, .getfield 75, 3)) dm_Mo_copy_0 18 rfl
theorem dc_Mo_copy_37 : decode cd_Mo_copy 37 = .ok (.ifCond .ne 31, 3) := dq_at (q := (37, .ifCond .ne 31, 3)) dm_Mo_copy_0 19 rfl
theorem dc_Mo_copy_40 : decode cd_Mo_copy 40 = .ok (.aload_n 0, 1) := dq_at (q := (40, .aload_n 0, 1)) dm_Mo_copy_0 20 rfl
theorem dc_Mo_copy_41 : decode cd_Mo_copy 41 = .ok (.getfield 13, 3) := dq_at (q := (41, .getfield 13, 3)) dm_Mo_copy_0 21 rfl
theorem dc_Mo_copy_44 : decode cd_Mo_copy 44 = .ok (.bipush 6, 2) := dq_at (q := (44, .bipush 6, 2)) dm_Mo_copy_0 22 rfl
theorem dc_Mo_copy_46 : decode cd_Mo_copy 46 = .ok (.iload_n 2, 1) := dq_at (q := (46, .iload_n 2, 1)) dm_Mo_copy_0 23 rfl
theorem dc_Mo_copy_47 : decode cd_Mo_copy 47 = .ok (.imul, 1) := dq_at (q := (47, .imul, 1)) dm_Mo_copy_0 24 rfl
theorem dc_Mo_copy_48 : decode cd_Mo_copy 48 = .ok (.iload_n 3, 1) := dq_at (q := (48, .iload_n 3, 1)) dm_Mo_copy_0 25 rfl
theorem dc_Mo_copy_49 : decode cd_Mo_copy 49 = .ok (.iadd, 1) := dq_at (q := (49, .iadd, 1)) dm_Mo_copy_0 26 rfl
theorem dc_Mo_copy_50 : decode cd_Mo_copy 50 = .ok (.aload_n 0, 1) := dq_at (q := (50, .aload_n 0, 1)) dm_Mo_copy_0 27 rfl
theorem dc_Mo_copy_51 : decode cd_Mo_copy 51 = .ok (.getfield 13, 3) := dq_at (q := (51, .getfield 13, 3)) dm_Mo_copy_0 28 rfl
theorem dc_Mo_copy_54 : decode cd_Mo_copy 54 = .ok (.bipush 6, 2) := dq_at (q := (54, .bipush 6, 2)) dm_Mo_copy_0 29 rfl
theorem dc_Mo_copy_56 : decode cd_Mo_copy 56 = .ok (.iload_n 1, 1) := dq_at (q := (56, .iload_n 1, 1)) dm_Mo_copy_0 30 rfl
theorem dc_Mo_copy_57 : decode cd_Mo_copy 57 = .ok (.imul, 1) := dq_at (q := (57, .imul, 1)) dm_Mo_copy_0 31 rfl
theorem dc_Mo_copy_58 : decode cd_Mo_copy 58 = .ok (.iload_n 3, 1) := dq_at (q := (58, .iload_n 3, 1)) dm_Mo_copy_0 32 rfl
theorem dc_Mo_copy_59 : decode cd_Mo_copy 59 = .ok (.iadd, 1) := dq_at (q := (59, .iadd, 1)) dm_Mo_copy_0 33 rfl
theorem dc_Mo_copy_60 : decode cd_Mo_copy 60 = .ok (.iaload, 1) := dq_at (q := (60, .iaload, 1)) dm_Mo_copy_0 34 rfl
theorem dc_Mo_copy_61 : decode cd_Mo_copy 61 = .ok (.iastore, 1) := dq_at (q := (61, .iastore, 1)) dm_Mo_copy_0 35 rfl
theorem dc_Mo_copy_62 : decode cd_Mo_copy 62 = .ok (.iinc 3 1, 3) := dq_at (q := (62, .iinc 3 1, 3)) dm_Mo_copy_0 36 rfl
theorem dc_Mo_copy_65 : decode cd_Mo_copy 65 = .ok (.goto (-40), 3) := dq_at (q := (65, .goto (-40), 3)) dm_Mo_copy_0 37 rfl
theorem dc_Mo_copy_68 : decode cd_Mo_copy 68 = .ok (.aload_n 0, 1) := dq_at (q := (68, .aload_n 0, 1)) dm_Mo_copy_0 38 rfl
theorem dc_Mo_copy_69 : decode cd_Mo_copy 69 = .ok (.getfield 75, 3) := dq_at (q := (69, .getfield 75, 3)) dm_Mo_copy_0 39 rfl
theorem dc_Mo_copy_72 : decode cd_Mo_copy 72 = .ok (.ifCond .ne 10, 3) := dq_at (q := (72, .ifCond .ne 10, 3)) dm_Mo_copy_0 40 rfl
theorem dc_Mo_copy_75 : decode cd_Mo_copy 75 = .ok (.aload_n 0, 1) := dq_at (q := (75, .aload_n 0, 1)) dm_Mo_copy_0 41 rfl
theorem dc_Mo_copy_76 : decode cd_Mo_copy 76 = .ok (.getfield 17, 3) := dq_at (q := (76, .getfield 17, 3)) dm_Mo_copy_0 42 rfl
theorem dc_Mo_copy_79 : decode cd_Mo_copy 79 = .ok (.iload_n 2, 1) := dq_at (q := (79, .iload_n 2, 1)) dm_Mo_copy_0 43 rfl
theorem dc_Mo_copy_80 : decode cd_Mo_copy 80 = .ok (.iconst 0, 1) := dq_at (q := (80, .iconst 0, 1)) dm_Mo_copy_0 44 rfl
theorem dc_Mo_copy_81 : decode cd_Mo_copy 81 = .ok (.iastore, 1) := dq_at (q := (81, .iastore, 1)) dm_Mo_copy_0 45 rfl
theorem dc_Mo_copy_82 : decode cd_Mo_copy 82 = .ok (.return_, 1) := dq_at (q := (82, .return_, 1)) dm_Mo_copy_0 46 rfl
def dl_Mo_turn_0 : List (Nat × Instr × Nat) := [(0, .iconst 0, 1), (1, .istore 4, 2), (3, .iload 4, 2), (5, .iload_n 3, 1), (6, .iload_n 2, 1), (7, .isub, 1), (8, .if_icmp .gt 54, 3), (11, .iload_n 1, 1), (12, .iload_n 2, 1), (13, .iadd, 1), (14, .iload 4, 2), (16, .iadd, 1), (17, .istore 5, 2), (19, .iload_n 1, 1), (20, .iload_n 3, 1), (21, .iadd, 1), (22, .iload 4, 2), (24, .isub, 1), (25, .istore 6, 2), (27, .iload 5, 2), (29, .iload 6, 2), (31, .if_icmp .gt 25, 3), (34, .aload_n 0, 1), (35, .iload 5, 2), (37, .iaload, 1), (38, .istore 7, 2), (40, .aload_n 0, 1), (41, .iload 5, 2), (43, .aload_n 0, 1), (44, .iload 6, 2), (46, .iaload, 1), (47, .ineg, 1), (48, .iastore, 1), (49, .aload_n 0, 1), (50, .iload 6, 2), (52, .iload 7, 2), (54, .ineg, 1), (55, .iastore, 1), (56, .iinc 4 1, 3), (59, .goto (-56), 3), (62, .return_, 1)]
theorem dm_Mo_turn_0 : dl_Mo_turn_0.all (fun q => decide (decode cd_Mo_turn q.1 = .ok (q.2.1, q.2.2))) = true := by decide +kernel
theorem dc_Mo_turn_0 : decode cd_Mo_turn 0 = .ok (.iconst 0, 1) := dq_at (q := (0, .iconst 0, 1)) dm_Mo_turn_0 0 rfl
theorem dc_Mo_turn_1 : decode cd_Mo_turn 1 = .ok (.istore 4, 2) := dq_at (q := (1, .istore 4, 2)) dm_Mo_turn_0 1 rfl
theorem dc_Mo_turn_3 : decode cd_Mo_turn 3 = .ok (.iload 4, 2) := dq_at (q := (3, .iload 4, 2)) dm_Mo_turn_0 2 rfl
theorem dc_Mo_turn_5 : decode cd_Mo_turn 5 = .ok (.iload_n 3, 1) := dq_at (q := (5, .iload_n 3, 1)) dm_Mo_turn_0 3 rfl
theorem dc_Mo_turn_6 : decode cd_Mo_turn 6 = .ok (.iload_n 2, 1) := dq_at (q := (6, .iload_n 2, 1)) dm_Mo_turn_0 4 rfl
theorem dc_Mo_turn_7 : decode cd_Mo_turn 7 = .ok (.isub, 1) := dq_at (q := (7, .isub, 1)) dm_Mo_turn_0 5 rfl
theorem dc_Mo_turn_8 : decode cd_Mo_turn 8 = .ok (.if_icmp .gt 54, 3) := dq_at (q := (8, .if_icmp .gt 54, 3)) dm_Mo_turn_0 6 rfl
theorem dc_Mo_turn_11 : decode cd_Mo_turn 11 = .ok (.iload_n 1, 1) := dq_at (q := (11, .iload_n 1, 1)) dm_Mo_turn_0 7 rfl
theorem dc_Mo_turn_12 : decode cd_Mo_turn 12 = .ok (.iload_n 2, 1) := dq_at (q := (12, .iload_n 2, 1)) dm_Mo_turn_0 8 rfl
theorem dc_Mo_turn_13 : decode cd_Mo_turn 13 = .ok (.iadd, 1) := dq_at (q := (13, .iadd, 1)) dm_Mo_turn_0 9 rfl
theorem dc_Mo_turn_14 : decode cd_Mo_turn 14 = .ok (.iload 4, 2) := dq_at (q := (14, .iload 4, 2)) dm_Mo_turn_0 10 rfl
theorem dc_Mo_turn_16 : decode cd_Mo_turn 16 = .ok (.iadd, 1) := dq_at (q := (16, .iadd, 1)) dm_Mo_turn_0 11 rfl
theorem dc_Mo_turn_17 : decode cd_Mo_turn 17 = .ok (.istore 5, 2) := dq_at (q := (17, .istore 5, 2)) dm_Mo_turn_0 12 rfl
theorem dc_Mo_turn_19 : decode cd_Mo_turn 19 = .ok (.iload_n 1, 1) := dq_at (q := (19, .iload_n 1, 1)) dm_Mo_turn_0 13 rfl
theorem dc_Mo_turn_20 : decode cd_Mo_turn 20 = .ok (.iload_n 3, 1) := dq_at (q := (20, .iload_n 3, 1)) dm_Mo_turn_0 14 rfl
theorem dc_Mo_turn_21 : decode cd_Mo_turn 21 = .ok (.iadd, 1) := dq_at (q := (21, .iadd, 1)) dm_Mo_turn_0 15 rfl
theorem dc_Mo_turn_22 : decode cd_Mo_turn 22 = .ok (.iload 4, 2) := dq_at (q := (22, .iload 4, 2)) dm_Mo_turn_0 16 rfl
theorem dc_Mo_turn_24 : decode cd_Mo_turn 24 = .ok (.isub, 1) := dq_at (q := (24, .isub, 1)) dm_Mo_turn_0 17 rfl
theorem dc_Mo_turn_25 : decode cd_Mo_turn 25 = .ok (.istore 6, 2) := dq_at (q := (25, .istore 6, 2)) dm_Mo_turn_0 18 rfl
theorem dc_Mo_turn_27 : decode cd_Mo_turn 27 = .ok (.iload 5, 2) := dq_at (q := (27, .iload 5, 2)) dm_Mo_turn_0 19 rfl
theorem dc_Mo_turn_29 : decode cd_Mo_turn 29 = .ok (.iload 6, 2) := dq_at (q := (29, .iload 6, 2)) dm_Mo_turn_0 20 rfl
theorem dc_Mo_turn_31 : decode cd_Mo_turn 31 = .ok (.if_icmp .gt 25, 3) := dq_at (q := (31, .if_icmp .gt 25, 3)) dm_Mo_turn_0 21 rfl
theorem dc_Mo_turn_34 : decode cd_Mo_turn 34 = .ok (.aload_n 0, 1) := dq_at (q := (34, .aload_n 0, 1)) dm_Mo_turn_0 22 rfl
theorem dc_Mo_turn_35 : decode cd_Mo_turn 35 = .ok (.iload 5, 2) := dq_at (q := (35, .iload 5, 2)) dm_Mo_turn_0 23 rfl
theorem dc_Mo_turn_37 : decode cd_Mo_turn 37 = .ok (.iaload, 1) := dq_at (q := (37, .iaload, 1)) dm_Mo_turn_0 24 rfl
theorem dc_Mo_turn_38 : decode cd_Mo_turn 38 = .ok (.istore 7, 2) := dq_at (q := (38, .istore 7, 2)) dm_Mo_turn_0 25 rfl
theorem dc_Mo_turn_40 : decode cd_Mo_turn 40 = .ok (.aload_n 0, 1) := dq_at (q := (40, .aload_n 0, 1)) dm_Mo_turn_0 26 rfl
theorem dc_Mo_turn_41 : decode cd_Mo_turn 41 = .ok (.iload 5, 2) := dq_at (q := (41, .iload 5, 2)) dm_Mo_turn_0 27 rfl
theorem dc_Mo_turn_43 : decode cd_Mo_turn 43 = .ok (.aload_n 0, 1) := dq_at (q := (43, .aload_n 0, 1)) dm_Mo_turn_0 28 rfl
theorem dc_Mo_turn_44 : decode cd_Mo_turn 44 = .ok (.iload 6, 2) := dq_at (q := (44, .iload 6, 2)) dm_Mo_turn_0 29 rfl
theorem dc_Mo_turn_46 : decode cd_Mo_turn 46 = .ok (.iaload, 1) := dq_at (q := (46, .iaload, 1)) dm_Mo_turn_0 30 rfl
theorem dc_Mo_turn_47 : decode cd_Mo_turn 47 = .ok (.ineg, 1) := dq_at (q := (47, .ineg, 1)) dm_Mo_turn_0 31 rfl
theorem dc_Mo_turn_48 : decode cd_Mo_turn 48 = .ok (.iastore, 1) := dq_at (q := (48, .iastore, 1)) dm_Mo_turn_0 32 rfl
theorem dc_Mo_turn_49 : decode cd_Mo_turn 49 = .ok (.aload_n 0, 1) := dq_at (q := (49, .aload_n 0, 1)) dm_Mo_turn_0 33 rfl
theorem dc_Mo_turn_50 : decode cd_Mo_turn 50 = .ok (.iload 6, 2) := dq_at (q := (50, .iload 6, 2)) dm_Mo_turn_0 34 rfl
theorem dc_Mo_turn_52 : decode cd_Mo_turn 52 = .ok (.iload 7, 2) := dq_at (q := (52, .iload 7, 2)) dm_Mo_turn_0 35 rfl
theorem dc_Mo_turn_54 : decode cd_Mo_turn 54 = .ok (.ineg, 1) := dq_at (q := (54, .ineg, 1)) dm_Mo_turn_0 36 rfl
theorem dc_Mo_turn_55 : decode cd_Mo_turn 55 = .ok (.iastore, 1) := dq_at (q := (55, .iastore, 1)) dm_Mo_turn_0 37 rfl
theorem dc_Mo_turn_56 : decode cd_Mo_turn 56 = .ok (.iinc 4 1, 3) := dq_at (q := (56, .iinc 4 1, 3)) dm_Mo_turn_0 38 rfl
theorem dc_Mo_turn_59 : decode cd_Mo_turn 59 = .ok (.goto (-56), 3) := dq_at (q := (59, .goto (-56), 3)) dm_Mo_turn_0 39 rfl
theorem dc_Mo_turn_62 : decode cd_Mo_turn 62 = .ok (.return_, 1) := dq_at (q := (62, .return_, 1)) dm_Mo_turn_0 40 rfl
