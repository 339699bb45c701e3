def dl_Mo_breakpoints_0 : List (Nat × Instr × Nat) := [(0, .iconst 0, 1), (1, .istore_n 1, 1), (2, .iconst 0, 1), (3, .istore_n 2, 1), (4, .iload_n 2, 1), (5, .aload_n 0, 1), (6, .getfield 7, 3), (9, .if_icmp .gt 67, 3), (12, .iload_n 2, 1), (13, .ifCond .ne 7, 3), (16, .iconst 0, 1), (17, .goto 11, 3), (20, .aload_n 0, 1), (21, .getfield 45, 3), (24, .iload_n 2, 1), (25, .iconst 1, 1), (26, .isub, 1), (27, .iaload, 1), (28, .istore_n 3, 1), (29, .iload_n 2, 1), (30, .aload_n 0, 1), (31, .getfield 7, 3), (34, .if_icmp .ne 12, 3), (37, .aload_n 0, 1), (38, .getfield 7, 3), (41, .iconst 1, 1), (42, .iadd, 1), (43, .goto 9, 3), (46, .aload_n 0, 1), (47, .getfield 45, 3), (50, .iload_n 2, 1), (51, .iaload, 1), (52, .istore 4, 2), (54, .iload 4, 2), (56, .iload_n 3, 1), (57, .iconst 1, 1), (58, .iadd, 1), (59, .if_icmp .ne 7, 3), (62, .iload_n 1, 1), (63, .goto 6, 3), (66, .iload_n 1, 1), (67, .iconst 1, 1), (68, .iadd, 1), (69, .istore_n 1, 1), (70, .iinc 2 1, 3), (73, .goto (-69), 3), (76, .iload_n 1, 1), (77, .ireturn, 1)]
theorem dm_Mo_breakpoints_0 : dl_Mo_breakpoints_0.all (fun q => decide (decode cd_Mo_breakpoints q.1 = .ok (q.2.1, q.2.2))) = true := by decide +kernel
theorem dc_Mo_breakpoints_0 : decode cd_Mo_breakpoints 0 = .ok (.iconst 0, 1) := dq_at (q := (0, .iconst 0, 1)) dm_Mo_breakpoints_0 0 rfl
theorem dc_Mo_breakpoints_1 : decode cd_Mo_breakpoints 1 = .ok (.istore_n 1, 1) := dq_at (q := (1, .istore_n 1, 1)) dm_Mo_breakpoints_0 1 rfl
theorem dc_Mo_breakpoints_2 : decode cd_Mo_breakpoints 2 = .ok (.iconst 0, 1) := dq_at (q := (2, .iconst 0, 1)) dm_Mo_breakpoints_0 2 rfl
theorem dc_Mo_breakpoints_3 : decode cd_Mo_breakpoints 3 = .ok (.istore_n 2, 1) := dq_at (q := (3, .istore_n 2, 1)) dm_Mo_breakpoints_0 3 rfl
theorem dc_Mo_breakpoints_4 : decode cd_Mo_breakpoints 4 = .ok (.iload_n 2, 1) := dq_at (q := (4, .iload_n 2, 1)) dm_Mo_breakpoints_0 4 rfl
theorem dc_Mo_breakpoints_5 : decode cd_Mo_breakpoints 5 = .ok (.aload_n 0, 1) := dq_at (q := (5, .aload_n 0, 1)) dm_Mo_breakpoints_0 5 rfl
theorem dc_Mo_breakpoints_6 : decode cd_Mo_breakpoints 6 = .ok (.getfield 7, 3) := dq_at (q := (6, .getfield 7, 3)) dm_Mo_breakpoints_0 6 rfl
theorem dc_Mo_breakpoints_9 : decode cd_Mo_breakpoints 9 = .ok (.if_icmp .gt 67, 3) := dq_at (q := (9, .if_icmp .gt 67, 3)) dm_Mo_breakpoints_0 7 rfl
theorem dc_Mo_breakpoints_12 : decode cd_Mo_breakpoints 12 = .ok (.iload_n 2, 1) := dq_at (q := (12, .iload_n 2, 1)) dm_Mo_breakpoints_0 8 rfl
theorem dc_Mo_breakpoints_13 : decode cd_Mo_breakpoints 13 = .ok (.ifCond .ne 7, 3) := dq_at (q := (13, .ifCond .ne 7, 3)) dm_Mo_breakpoints_0 9 rfl
theorem dc_Mo_breakpoints_16 : decode cd_Mo_breakpoints 16 = .ok (.iconst 0, 1) := dq_at (q := (16, .iconst 0, 1)) dm_Mo_breakpoints_0 10 rfl
theorem dc_Mo_breakpoints_17 : decode cd_Mo_breakpoints 17 = .ok (.goto 11, 3) := dq_at (q := (17, .goto 11, 3)) dm_Mo_breakpoints_0 11 rfl
theorem dc_Mo_breakpoints_20 : decode cd_Mo_breakpoints 20 = .ok (.aload_n 0, 1) := dq_at (q := (20, .aload_n 0, 1)) dm_Mo_breakpoints_0 12 rfl
theorem dc_Mo_breakpoints_21 : decode cd_Mo_breakpoints 21 = .ok (.getfield 45, 3) := dq_at (q := (21, .getfield 45, 3)) dm_Mo_breakpoints_0 13 rfl
theorem dc_Mo_breakpoints_24 : decode cd_Mo_breakpoints 24 = .ok (.iload_n 2, 1) := dq_at (q := (24, .iload_n 2, 1)) dm_Mo_breakpoints_0 14 rfl
theorem dc_Mo_breakpoints_25 : decode cd_Mo_breakpoints 25 = .ok (.iconst 1, 1) := dq_at (q := (25, .iconst 1, 1)) dm_Mo_breakpoints_0 15 rfl
theorem dc_Mo_breakpoints_26 : decode cd_Mo_breakpoints 26 = .ok (.isub, 1) := dq_at (q := (26, .isub, 1)) dm_Mo_breakpoints_0 16 rfl
theorem dc_Mo_breakpoints_27 : decode cd_Mo_breakpoints 27 = .ok (.iaload, 1) := dq_at (q := (27, .iaload, 1)) dm_Mo_breakpoints_0 17 rfl
theorem dc_Mo_breakpoints_28 : decode cd_Mo_breakpoints 28 = .ok (.istore_n 3, 1) := dq_at (q := (28, .istore_n 3, 1)) dm_Mo_breakpoints_0 18 rfl
theorem dc_Mo_breakpoints_29 : decode cd_Mo_breakpoints 29 = .ok (.iload_n 2, 1) := dq_at (q := (29, .iload_n 2, 1)) dm_Mo_breakpoints_0 19 rfl
theorem dc_Mo_breakpoints_30 : decode cd_Mo_breakpoints 30 = .ok (.aload_n 0, 1) := dq_at (q := (30, .aload_n 0, 1)) dm_Mo_breakpoints_0 20 rfl
theorem dc_Mo_breakpoints_31 : decode cd_Mo_breakpoints 31 = .ok (.getfield 7, 3) := dq_at (q := (31, .getfield 7, 3)) dm_Mo_breakpoints_0 21 rfl
theorem dc_Mo_breakpoints_34 : decode cd_Mo_breakpoints 34 = .ok (.if_icmp .ne 12, 3) := dq_at (q := (34, .if_icmp .ne 12, 3)) dm_Mo_breakpoints_0 22 rfl
theorem dc_Mo_breakpoints_37 : decode cd_Mo_breakpoints 37 = .ok (.aload_n 0, 1) := dq_at (q := (37, .aload_n 0, 1)) dm_Mo_breakpoints_0 23 rfl
theorem dc_Mo_breakpoints_38 : decode cd_Mo_breakpoints 38 = .ok (.getfield 7, 3) := dq_at (q := (38, .getfield 7, 3)) dm_Mo_breakpoints_0 24 rfl
theorem dc_Mo_breakpoints_41 : decode cd_Mo_breakpoints 41 = .ok (.iconst 1, 1) := dq_at (q := (41, .iconst 1, 1)) dm_Mo_breakpoints_0 25 rfl
theorem dc_Mo_breakpoints_42 : decode cd_Mo_breakpoints 42 = .ok (.iadd, 1) := dq_at (q := (42, .iadd, 1)) dm_Mo_breakpoints_0 26 rfl
theorem dc_Mo_breakpoints_43 : decode cd_Mo_breakpoints 43 = .ok (.goto 9, 3) := dq_at (q := (43, .goto 9, 3)) dm_Mo_breakpoints_0 27 rfl
theorem dc_Mo_breakpoints_46 : decode cd_Mo_breakpoints 46 = .ok (.aload_n 0, 1) := dq_at (q := (46, .aload_n 0, 1)) dm_Mo_breakpoints_0 28 rfl
theorem dc_Mo_breakpoints_47 : decode cd_Mo_breakpoints 47 = .ok (.getfield 45, 3) := dq_at (q := (47, .getfield 45, 3)) dm_Mo_breakpoints_0 29 rfl
theorem dc_Mo_breakpoints_50 : decode cd_Mo_breakpoints 50 = .ok (.iload_n 2, 1) := dq_at (q := (50, .iload_n 2, 1)) dm_Mo_breakpoints_0 30 rfl
theorem dc_Mo_breakpoints_51 : decode cd_Mo_breakpoints 51 = .ok (.iaload, 1) := dq_at (q := (51, .iaload, 1)) dm_Mo_breakpoints_0 31 rfl
theorem dc_Mo_breakpoints_52 : decode cd_Mo_breakpoints 52 = .ok (.istore 4, 2) := dq_at (q := (52, .istore 4, 2)) dm_Mo_breakpoints_0 32 rfl
theorem dc_Mo_breakpoints_54 : decode cd_Mo_breakpoints 54 = .ok (.iload 4, 2) := dq_at (q := (54, .iload 4, 2)) dm_Mo_breakpoints_0 33 rfl
theorem dc_Mo_breakpoints_56 : decode cd_Mo_breakpoints 56 = .ok (.iload_n 3, 1) := dq_at (q := (56, .iload_n 3, 1)) dm_Mo_breakpoints_0 34 rfl
theorem dc_Mo_breakpoints_57 : decode cd_Mo_breakpoints 57 = .ok (.iconst 1, 1) := dq_at (q := (57, .iconst 1, 1)) dm_Mo_breakpoints_0 35 rfl
theorem dc_Mo_breakpoints_58 : decode cd_Mo_breakpoints 58 = .ok (.iadd, 1) := dq_at (q := (58, .iadd, 1)) dm_Mo_breakpoints_0 36 rfl
theorem dc_Mo_breakpoints_59 : decode cd_Mo_breakpoints 59 = .ok (.if_icmp .ne 7, 3) := dq_at (q := (59, .if_icmp .ne 7, 3)) dm_Mo_breakpoints_0 37 rfl
theorem dc_Mo_breakpoints_62 : decode cd_Mo_breakpoints 62 = .ok (.iload_n 1, 1) := dq_at (q := (62, .iload_n 1, 1)) dm_Mo_breakpoints_0 38 rfl
theorem dc_Mo_breakpoints_63 : decode cd_Mo_breakpoints 63 = .ok (.goto 6, 3) := dq_at (q := (63, .goto 6, 3)) dm_Mo_breakpoints_0 39 rfl
theorem dc_Mo_breakpoints_66 : decode cd_Mo_breakpoints 66 = .ok (.iload_n 1, 1) := dq_at (q := (66, .iload_n 1, 1)) dm_Mo_breakpoints_0 40 rfl
theorem dc_Mo_breakpoints_67 : decode cd_Mo_breakpoints 67 = .ok (.iconst 1, 1) := dq_at (q := (67, .iconst 1, 1)) dm_Mo_breakpoints_0 41 rfl
theorem dc_Mo_breakpoints_68 : decode cd_Mo_breakpoints 68 = .ok (.iadd, 1) := dq_at (q := (68, .iadd, 1)) dm_Mo_breakpoints_0 42 rfl
theorem dc_Mo_breakpoints_69 : decode cd_Mo_breakpoints 69 = .ok (.istore_n 1, 1) := dq_at (q := (69, .istore_n 1, 1)) dm_Mo_breakpoints_0 43 rfl
theorem dc_Mo_breakpoints_70 : decode cd_Mo_breakpoints 70 = .ok (.iinc 2 1, 3) := dq_at (q := (70, .iinc 2 1, 3)) dm_Mo_breakpoints_0 44 rfl
theorem dc_Mo_breakpoints_73 : decode cd_Mo_breakpoints 73 = .ok (.goto (-69), 3) := dq_at (q := (73, .goto (-69), 3)) dm_Mo_breakpoints_0 45 rfl
theorem dc_Mo_breakpoints_76 : decode cd_Mo_breakpoints 76 = .ok (.iload_n 1, 1) := dq_at (q := (76, .iload_n 1, 1)) dm_Mo_breakpoints_0 46 rfl
theorem dc_Mo_breakpoints_77 : decode cd_Mo_breakpoints 77 = .ok (.ireturn, 1) := dq_at (q := (77, .ireturn, 1)) dm_Mo_breakpoints_0 47 rfl
def dl_Mo_drawing_0 : List (Nat × Instr × Nat) := [(0, .aload_n 0, 1), (1, .iload_n 1, 1), (2, .invokestatic 87, 3), (5, .ifCond .ne 10, 3), (8, .iload_n 2, 1), (9, .invokestatic 87, 3), (12, .ifCond .eq 7, 3), (15, .iconst 1, 1), (16, .goto 17, 3), (19, .iload_n 3, 1), (20, .ifCond .lt 8, 3), (23, .iload_n 3, 1), (24, .iconst 5, 1), (25, .if_icmp .le 7, 3), (28, .iconst 2, 1), (29, .goto 4, 3), (32, .iconst 0, 1), (33, .putfield 75, 3), (36, .aload_n 0, 1), (37, .getfield 75, 3), (40, .ifCond .le 5, 3), (43, .iconst 0, 1), (44, .ireturn, 1), (45, .aload_n 0, 1), (46, .iload_n 1, 1), (47, .iload_n 2, 1), (48, .invokevirtual 142, 3), (51, .aload_n 0, 1), (52, .invokevirtual 146, 3), (55, .istore 4, 2), (57, .iconst 0, 1), (58, .istore 5, 2), (60, .iload_n 3, 1), (61, .tableswitch 131 0 4 #[35, 40, 43, 85, 90], 35), (96, .aload_n 0, 1), (97, .invokevirtual 149, 3), (100, .ireturn, 1), (101, .iload 4, 2), (103, .ireturn, 1), (104, .iconst 0, 1), (105, .istore 6, 2), (107, .iload 6, 2), (109, .aload_n 0, 1), (110, .getfield 7, 3), (113, .if_icmp .gt 30, 3), (116, .aload_n 0, 1), (117, .getfield 63, 3), (120, .iload 6, 2), (122, .baload, 1), (123, .ifCond .eq 10, 3), (126, .iload 5, 2), (128, .iconst 1, 1), (129, .iadd, 1), (130, .goto 5, 3), (133, .iload 5, 2), (135, .istore 5, 2), (137, .iinc 6 1, 3), (140, .goto (-33), 3), (143, .iload 5, 2), (145, .ireturn, 1)]
theorem dm_Mo_drawing_0 : dl_Mo_drawing_0.all (fun q => decide (decode cd_Mo_drawing q.1 = .ok (q.2.1, q.2.2))) = true := by decide +kernel
theorem dc_Mo_drawing_0 : decode cd_Mo_drawing 0 = .ok (.aload_n 0, 1) := dq_at (q := (0, .aload_n 0, 1)) dm_Mo_drawing_0 0 rfl
theorem dc_Mo_drawing_1 : decode cd_Mo_drawing 1 = .ok (.iload_n 1, 1) := dq_at (q := (1, .iload_n 1, 1)) dm_Mo_drawing_0 1 rfl
theorem dc_Mo_drawing_2 : decode cd_Mo_drawing 2 = .ok (.invokestatic 87, 3) := dq_at (q := (2, .invokestatic 87, 3)) dm_Mo_drawing_0 2 rfl
theorem dc_Mo_drawing_5 : decode cd_Mo_drawing 5 = .ok (.ifCond .ne 10, 3) := dq_at (q := (5, .ifCond .ne 10, 3)) dm_Mo_drawing_0 3 rfl
theorem dc_Mo_drawing_8 : decode cd_Mo_drawing 8 = .ok (.iload_n 2, 1) := dq_at (q := (8, .iload_n 2, 1)) dm_Mo_drawing_0 4 rfl
theorem dc_Mo_drawing_9 : decode cd_Mo_drawing 9 = .ok (.invokestatic 87, 3) := dq_at (q := (9, .invokestatic 87, 3)) dm_Mo_drawing_0 5 rfl
theorem dc_Mo_drawing_12 : decode cd_Mo_drawing 12 = .ok (.ifCond .eq 7, 3) := dq_at (q := (12, .ifCond .eq 7, 3)) dm_Mo_drawing_0 6 rfl
theorem dc_Mo_drawing_15 : decode cd_Mo_drawing 15 = .ok (.iconst 1, 1) := dq_at (q := (15, .iconst 1, 1)) dm_Mo_drawing_0 7 rfl
theorem dc_Mo_drawing_16 : decode cd_Mo_drawing 16 = .ok (.goto 17, 3) := dq_at (q := (16, .goto 17, 3)) dm_Mo_drawing_0 8 rfl
theorem dc_Mo_drawing_19 : decode cd_Mo_drawing 19 = .ok (.iload_n 3, 1) := dq_at (q := (19, .iload_n 3, 1)) dm_Mo_drawing_0 9 rfl
theorem dc_Mo_drawing_20 : decode cd_Mo_drawing 20 = .ok (.ifCond .lt 8, 3) := dq_at (q := (20, .ifCond .lt 8, 3)) dm_Mo_drawing_0 10 rfl
theorem dc_Mo_drawing_23 : decode cd_Mo_drawing 23 = .ok (.iload_n 3, 1) := dq_at (q := (23, .iload_n 3, 1)) dm_Mo_drawing_0 11 rfl
theorem dc_Mo_drawing_24 : decode cd_Mo_drawing 24 = .ok (.iconst 5, 1) := dq_at (q := (24, .iconst 5, 1)) dm_Mo_drawing_0 12 rfl
theorem dc_Mo_drawing_25 : decode cd_Mo_drawing 25 = .ok (.if_icmp .le 7, 3) := dq_at (q := (25, .if_icmp .le 7, 3)) dm_Mo_drawing_0 13 rfl
theorem dc_Mo_drawing_28 : decode cd_Mo_drawing 28 = .ok (.iconst 2, 1) := dq_at (q := (28, .iconst 2, 1)) dm_Mo_drawing_0 14 rfl
theorem dc_Mo_drawing_29 : decode cd_Mo_drawing 29 = .ok (.goto 4, 3) := dq_at (q := (29, .goto 4, 3)) dm_Mo_drawing_0 15 rfl
theorem dc_Mo_drawing_32 : decode cd_Mo_drawing 32 = .ok (.iconst 0, 1) := dq_at (q := (32, .iconst 0, 1)) dm_Mo_drawing_0 16 rfl
theorem dc_Mo_drawing_33 : decode cd_Mo_drawing 33 = .ok (.putfield 75, 3) := dq_at (q := (33, .putfield 75, 3)) dm_Mo_drawing_0 17 rfl
theorem dc_Mo_drawing_36 : decode cd_Mo_drawing 36 = .ok (.aload_n 0, 1) := dq_at (q := (36, .aload_n 0, 1)) dm_Mo_drawing_0 18 rfl
theorem dc_Mo_drawing_37 : decode cd_Mo_drawing 37 = .ok (.getfield 75, 3) := dq_at (q := (37, .getfield 75, 3)) dm_Mo_drawing_0 19 rfl
theorem dc_Mo_drawing_40 : decode cd_Mo_drawing 40 = .ok (.ifCond .le 5, 3) := dq_at (q := (40, .ifCond .le 5, 3)) dm_Mo_drawing_0 20 rfl
theorem dc_Mo_drawing_43 : decode cd_Mo_drawing 43 = .ok (.iconst 0, 1) := dq_at (q := (43, .iconst 0, 1)) dm_Mo_drawing_0 21 rfl
theorem dc_Mo_drawing_44 : decode cd_Mo_drawing 44 = .ok (.ireturn, 1) := dq_at (q := (44, .ireturn, 1)) dm_Mo_drawing_0 22 rfl
theorem dc_Mo_drawing_45 : decode cd_Mo_drawing 45 = .ok (.aload_n 0, 1) := dq_at (q := (45, .aload_n 0, 1)) dm_Mo_drawing_0 23 rfl
theorem dc_Mo_drawing_46 : decode cd_Mo_drawing 46 = .ok (.iload_n 1, 1) := dq_at (q := (46, .iload_n 1, 1)) dm_Mo_drawing_0 24 rfl
theorem dc_Mo_drawing_47 : decode cd_Mo_drawing 47 = .ok (.iload_n 2, 1) := dq_at (q := (47, .iload_n 2, 1)) dm_Mo_drawing_0 25 rfl
theorem dc_Mo_drawing_48 : decode cd_Mo_drawing 48 = .ok (.invokevirtual 142, 3) := dq_at (q := (48, .invokevirtual 142, 3)) dm_Mo_drawing_0 26 rfl
theorem dc_Mo_drawing_51 : decode cd_Mo_drawing 51 = .ok (.aload_n 0, 1) := dq_at (q := (51, .aload_n 0, 1)) dm_Mo_drawing_0 27 rfl
theorem dc_Mo_drawing_52 : decode cd_Mo_drawing 52 = .ok (.invokevirtual 146, 3) := dq_at (q := (52, .invokevirtual 146, 3)) dm_Mo_drawing_0 28 rfl
theorem dc_Mo_drawing_55 : decode cd_Mo_drawing 55 = .ok (.istore 4, 2) := dq_at (q := (55, .istore 4, 2)) dm_Mo_drawing_0 29 rfl
theorem dc_Mo_drawing_57 : decode cd_Mo_drawing 57 = .ok (.iconst 0, 1) := dq_at (q := (57, .iconst 0, 1)) dm_Mo_drawing_0 30 rfl
theorem dc_Mo_drawing_58 : decode cd_Mo_drawing 58 = .ok (.istore 5, 2) := dq_at (q := (58, .istore 5, 2)) dm_Mo_drawing_0 31 rfl
theorem dc_Mo_drawing_60 : decode cd_Mo_drawing 60 = .ok (.iload_n 3, 1) := dq_at (q := (60, .iload_n 3, 1)) dm_Mo_drawing_0 32 rfl
theorem dc_Mo_drawing_61 : decode cd_Mo_drawing 61 = .ok (.tableswitch 131 0 4 #[35, 40, 43, 85, 90], 35) := dq_at (q := (61, .tableswitch 131 0 4 #[35, 40, 43, 85, 90], 35)) dm_Mo_drawing_0 33 rfl
theorem dc_Mo_drawing_96 : decode cd_Mo_drawing 96 = .ok (.aload_n 0, 1) := dq_at (q := (96, .aload_n 0, 1)) dm_Mo_drawing_0 34 rfl
theorem dc_Mo_drawing_97 : decode cd_Mo_drawing 97 = .ok (.invokevirtual 149, 3) := dq_at (q := (97, .invokevirtual 149, 3)) dm_Mo_drawing_0 35 rfl
theorem dc_Mo_drawing_100 : decode cd_Mo_drawing 100 = .ok (.ireturn, 1) := dq_at (q := (100, .ireturn, 1)) dm_Mo_drawing_0 36 rfl
theorem dc_Mo_drawing_101 : decode cd_Mo_drawing 101 = .ok (.iload 4, 2) := dq_at (q := (101, .iload 4, 2)) dm_Mo_drawing_0 37 rfl
theorem dc_Mo_drawing_103 : decode cd_Mo_drawing 103 = .ok (.ireturn, 1) := dq_at (q := (103, .ireturn, 1)) dm_Mo_drawing_0 38 rfl
theorem dc_Mo_drawing_104 : decode cd_Mo_drawing 104 = .ok (.iconst 0, 1) := dq_at (q := (104, .iconst 0, 1)) dm_Mo_drawing_0 39 rfl
theorem dc_Mo_drawing_105 : decode cd_Mo_drawing 105 = .ok (.istore 6, 2) := dq_at (q := (105, .istore 6, 2)) dm_Mo_drawing_0 40 rfl
theorem dc_Mo_drawing_107 : decode cd_Mo_drawing 107 = .ok (.iload 6, 2) := dq_at (q := (107, .iload 6, 2)) dm_Mo_drawing_0 41 rfl
theorem dc_Mo_drawing_109 : decode cd_Mo_drawing 109 = .ok (.aload_n 0, 1) := dq_at (q := (109, .aload_n 0, 1)) dm_Mo_drawing_0 42 rfl
theorem dc_Mo_drawing_110 : decode cd_Mo_drawing 110 = .ok (.getfield 7, 3) := dq_at (q := (110, .getfield 7, 3)) dm_Mo_drawing_0 43 rfl
theorem dc_Mo_drawing_113 : decode cd_Mo_drawing 113 = .ok (.if_icmp .gt 30, 3) := dq_at (q := (113, .if_icmp .gt 30, 3)) dm_Mo_drawing_0 44 rfl
theorem dc_Mo_drawing_116 : decode cd_Mo_drawing 116 = .ok (.aload_n 0, 1) := dq_at (q := (116, .aload_n 0, 1)) dm_Mo_drawing_0 45 rfl
theorem dc_Mo_drawing_117 : decode cd_Mo_drawing 117 = .ok (.getfield 63, 3) := dq_at (q := (117, .getfield 63, 3)) dm_Mo_drawing_0 46 rfl
theorem dc_Mo_drawing_120 : decode cd_Mo_drawing 120 = .ok (.iload 6, 2) := dq_at (q := (120, .iload 6, 2)) dm_Mo_drawing_0 47 rfl
theorem dc_Mo_drawing_122 : decode cd_Mo_drawing 122 = .ok (.baload, 1) := dq_at (q := (122, .baload, 1)) dm_Mo_drawing_0 48 rfl
theorem dc_Mo_drawing_123 : decode cd_Mo_drawing 123 = .ok (.ifCond .eq 10, 3) := dq_at (q := (123, .ifCond .eq 10, 3)) dm_Mo_drawing_0 49 rfl
theorem dc_Mo_drawing_126 : decode cd_Mo_drawing 126 = .ok (.iload 5, 2) := dq_at (q := (126, .iload 5, 2)) dm_Mo_drawing_0 50 rfl
theorem dc_Mo_drawing_128 : decode cd_Mo_drawing 128 = .ok (.iconst 1, 1) := dq_at (q := (128, .iconst 1, 1)) dm_Mo_drawing_0 51 rfl
theorem dc_Mo_drawing_129 : decode cd_Mo_drawing 129 = .ok (.iadd, 1) := dq_at (q := (129, .iadd, 1)) dm_Mo_drawing_0 52 rfl
theorem dc_Mo_drawing_130 : decode cd_Mo_drawing 130 = .ok (.goto 5, 3) := dq_at (q := (130, .goto 5, 3)) dm_Mo_drawing_0 53 rfl
theorem dc_Mo_drawing_133 : decode cd_Mo_drawing 133 = .ok (.iload 5, 2) := dq_at (q := (133, .iload 5, 2)) dm_Mo_drawing_0 54 rfl
theorem dc_Mo_drawing_135 : decode cd_Mo_drawing 135 = .ok (.istore 5, 2) := dq_at (q := (135, .istore 5, 2)) dm_Mo_drawing_0 55 rfl
theorem dc_Mo_drawing_137 : decode cd_Mo_drawing 137 = .ok (.iinc 6 1, 3) := dq_at (q := (137, .iinc 6 1, 3)) dm_Mo_drawing_0 56 rfl
theorem dc_Mo_drawing_140 : decode cd_Mo_drawing 140 = .ok (.goto (-33), 3) := dq_at (q := (140, .goto (-33), 3)) dm_Mo_drawing_0 57 rfl
theorem dc_Mo_drawing_143 : decode cd_Mo_drawing 143 = .ok (.iload 5, 2) := dq_at (q := (143, .iload 5, 2)) dm_Mo_drawing_0 58 rfl
theorem dc_Mo_drawing_145 : decode cd_Mo_drawing 145 = .ok (.ireturn, 1) := dq_at (q := (145, .ireturn, 1)) dm_Mo_drawing_0 59 rfl
def dl_Mo_drawing_60 : List (Nat × Instr × Nat) := [(146, .aload_n 0, 1), (147, .invokevirtual 152, 3), (150, .ireturn, 1), (151, .iconst 0, 1), (152, .istore 6, 2), (154, .iload 6, 2), (156, .aload_n 0, 1), (157, .getfield 7, 3), (160, .if_icmp .gt 29, 3), (163, .aload_n 0, 1), (164, .iload 6, 2), (166, .invokevirtual 139, 3), (169, .ifCond .eq 10, 3), (172, .iload 5, 2), (174, .iconst 1, 1), (175, .iadd, 1), (176, .goto 5, 3), (179, .iload 5, 2), (181, .istore 5, 2), (183, .iinc 6 1, 3), (186, .goto (-32), 3), (189, .iload 5, 2), (191, .ireturn, 1), (192, .aload_n 0, 1), (193, .invokevirtual 155, 3), (196, .ireturn, 1)]
theorem dm_Mo_drawing_60 : dl_Mo_drawing_60.all (fun q => decide (decode cd_Mo_drawing q.1 = .ok (q.2.1, q.2.2))) = true := by decide +kernel
theorem dc_Mo_drawing_146 : decode cd_Mo_drawing 146 = .ok (.aload_n 0, 1) := dq_at (q := (146, .aload_n 0, 1)) dm_Mo_drawing_60 0 rfl
theorem dc_Mo_drawing_147 : decode cd_Mo_drawing 147 = .ok (.invokevirtual 152, 3) := dq_at (q := (147, .invokevirtual 152, 3)) dm_Mo_drawing_60 1 rfl
theorem dc_Mo_drawing_150 : decode cd_Mo_drawing 150 = .ok (.ireturn, 1) := dq_at (q := (150, .ireturn, 1)) dm_Mo_drawing_60 2 rfl
theorem dc_Mo_drawing_151 : decode cd_Mo_drawing 151 = .ok (.iconst 0, 1) := dq_at (q := (151, .iconst 0, 1)) dm_Mo_drawing_60 3 rfl
theorem dc_Mo_drawing_152 : decode cd_Mo_drawing 152 = .ok (.istore 6, 2) := dq_at (q := (152, .istore 6, 2)) dm_Mo_drawing_60 4 rfl
theorem dc_Mo_drawing_154 : decode cd_Mo_drawing 154 = .ok (.iload 6, 2) := dq_at (q := (154, .iload 6, 2)) dm_Mo_drawing_60 5 rfl
theorem dc_Mo_drawing_156 : decode cd_Mo_drawing 156 = .ok (.aload_n 0, 1) := dq_at (q := (156, .aload_n 0, 1)) dm_Mo_drawing_60 6 rfl
theorem dc_Mo_drawing_157 : decode cd_Mo_drawing 157 = .ok (.getfield 7, 3) := dq_at (q := (157, .getfield 7, 3)) dm_Mo_drawing_60 7 rfl
theorem dc_Mo_drawing_160 : decode cd_Mo_drawing 160 = .ok (.if_icmp .gt 29, 3) := dq_at (q := (160, .if_icmp .gt 29, 3)) dm_Mo_drawing_60 8 rfl
theorem dc_Mo_drawing_163 : decode cd_Mo_drawing 163 = .ok (.aload_n 0, 1) := dq_at (q := (163, .aload_n 0, 1)) dm_Mo_drawing_60 9 rfl
theorem dc_Mo_drawing_164 : decode cd_Mo_drawing 164 = .ok (.iload 6, 2) := dq_at (q := (164, .iload 6, 2)) dm_Mo_drawing_60 10 rfl
theorem dc_Mo_drawing_166 : decode cd_Mo_drawing 166 = .ok (.invokevirtual 139, 3) := dq_at (q := (166, .invokevirtual 139, 3)) dm_Mo_drawing_60 11 rfl
theorem dc_Mo_drawing_169 : decode cd_Mo_drawing 169 = .ok (.ifCond .eq 10, 3) := dq_at (q := (169, .ifCond .eq 10, 3)) dm_Mo_drawing_60 12 rfl
theorem dc_Mo_drawing_172 : decode cd_Mo_drawing 172 = .ok (.iload 5, 2) := dq_at (q := (172, .iload 5, 2)) dm_Mo_drawing_60 13 rfl
theorem dc_Mo_drawing_174 : decode cd_Mo_drawing 174 = .ok (.iconst 1, 1) := dq_at (q := (174, .iconst 1, 1)) dm_Mo_drawing_60 14 rfl
theorem dc_Mo_drawing_175 : decode cd_Mo_drawing 175 = .ok (.iadd, 1) := dq_at (q := (175, .iadd, 1)) dm_Mo_drawing_60 15 rfl
theorem dc_Mo_drawing_176 : decode cd_Mo_drawing 176 = .ok (.goto 5, 3) := dq_at (q := (176, .goto 5, 3)) dm_Mo_drawing_60 16 rfl
theorem dc_Mo_drawing_179 : decode cd_Mo_drawing 179 = .ok (.iload 5, 2) := dq_at (q := (179, .iload 5, 2)) dm_Mo_drawing_60 17 rfl
theorem dc_Mo_drawing_181 : decode cd_Mo_drawing 181 = .ok (.istore 5, 2) := dq_at (q := (181, .istore 5, 2)) dm_Mo_drawing_60 18 rfl
theorem dc_Mo_drawing_183 : decode cd_Mo_drawing 183 = .ok (.iinc 6 1, 3) := dq_at (q := (183, .iinc 6 1, 3)) dm_Mo_drawing_60 19 rfl
theorem dc_Mo_drawing_186 : decode cd_Mo_drawing 186 = .ok (.goto (-32), 3) := dq_at (q := (186, .goto (-32), 3)) dm_Mo_drawing_60 20 rfl
theorem dc_Mo_drawing_189 : decode cd_Mo_drawing 189 = .ok (.iload 5, 2) := dq_at (q := (189, .iload 5, 2)) dm_Mo_drawing_60 21 rfl
theorem dc_Mo_drawing_191 : decode cd_Mo_drawing 191 = .ok (.ireturn, 1) := dq_at (q := (191, .ireturn, 1)) dm_Mo_drawing_60 22 rfl
theorem dc_Mo_drawing_192 : decode cd_Mo_drawing 192 = .ok (.aload_n 0, 1) := dq_at (q := (192, .aload_n 0, 1)) dm_Mo_drawing_60 23 rfl
theorem dc_Mo_drawing_193 : decode cd_Mo_drawing 193 = .ok (.invokevirtual 155, 3) := dq_at (q := (193, .invokevirtual 155, 3)) dm_Mo_drawing_60 24 rfl
theorem dc_Mo_drawing_196 : decode cd_Mo_drawing 196 = .ok (.ireturn, 1) := dq_at (q := (196, .ireturn, 1)) dm_Mo_drawing_60 25 rfl
def dl_Mo_line_0 : List (Nat × Instr × Nat) := [(0, .aload_n 0, 1), (1, .iload_n 1, 1), (2, .invokestatic 87, 3), (5, .ifCond .ne 10, 3), (8, .iload_n 2, 1), (9, .invokestatic 87, 3), (12, .ifCond .eq 7, 3), (15, .iconst 1, 1), (16, .goto 20, 3), (19, .iload_n 3, 1), (20, .ifCond .lt 11, 3), (23, .iload_n 3, 1), (24, .aload_n 0, 1), (25, .getfield 7, 3), (28, .if_icmp .le 7, 3), (31, .iconst 2, 1), (32, .goto 4, 3), (35, .iconst 0, 1), (36, .putfield 75, 3), (39, .aload_n 0, 1), (40, .getfield 75, 3), (43, .ifCond .le 5, 3), (46, .iconst 0, 1), (47, .ireturn, 1), (48, .aload_n 0, 1), (49, .iload_n 1, 1), (50, .iload_n 2, 1), (51, .invokevirtual 142, 3), (54, .bipush 100, 2), (56, .aload_n 0, 1), (57, .iload_n 3, 1), (58, .invokevirtual 128, 3), (61, .imul, 1), (62, .aload_n 0, 1), (63, .iload_n 3, 1), (64, .invokevirtual 132, 3), (67, .iadd, 1), (68, .ireturn, 1)]
theorem dm_Mo_line_0 : dl_Mo_line_0.all (fun q => decide (decode cd_Mo_line q.1 = .ok (q.2.1, q.2.2))) = true := by decide +kernel
theorem dc_Mo_line_0 : decode cd_Mo_line 0 = .ok (.aload_n 0, 1) := dq_at (q := (0, .aload_n 0, 1)) dm_Mo_line_0 0 rfl
theorem dc_Mo_line_1 : decode cd_Mo_line 1 = .ok (.iload_n 1, 1) := dq_at (q := (1, .iload_n 1, 1)) dm_Mo_line_0 1 rfl
theorem dc_Mo_line_2 : decode cd_Mo_line 2 = .ok (.invokestatic 87, 3) := dq_at (q := (2, .invokestatic 87, 3)) dm_Mo_line_0 2 rfl
theorem dc_Mo_line_5 : decode cd_Mo_line 5 = .ok (.ifCond .ne 10, 3) := dq_at (q := (5, .ifCond .ne 10, 3)) dm_Mo_line_0 3 rfl
theorem dc_Mo_line_8 : decode cd_Mo_line 8 = .ok (.iload_n 2, 1) := dq_at (q := (8, .iload_n 2, 1)) dm_Mo_line_0 4 rfl
theorem dc_Mo_line_9 : decode cd_Mo_line 9 = .ok (.invokestatic 87, 3) := dq_at (q := (9, .invokestatic 87, 3)) dm_Mo_line_0 5 rfl
theorem dc_Mo_line_12 : decode cd_Mo_line 12 = .ok (.ifCond .eq 7, 3) := dq_at (q := (12, .ifCond .eq 7, 3)) dm_Mo_line_0 6 rfl
theorem dc_Mo_line_15 : decode cd_Mo_line 15 = .ok (.iconst 1, 1) := dq_at (q := (15, .iconst 1, 1)) dm_Mo_line_0 7 rfl
theorem dc_Mo_line_16 : decode cd_Mo_line 16 = .ok (.goto 20, 3) := dq_at (q := (16, .goto 20, 3)) dm_Mo_line_0 8 rfl
theorem dc_Mo_line_19 : decode cd_Mo_line 19 = .ok (.iload_n 3, 1) := dq_at (q := (19, .iload_n 3, 1)) dm_Mo_line_0 9 rfl
theorem dc_Mo_line_20 : decode cd_Mo_line 20 = .ok (.ifCond .lt 11, 3) := dq_at (q := (20, .ifCond .lt 11, 3)) dm_Mo_line_0 10 rfl
theorem dc_Mo_line_23 : decode cd_Mo_line 23 = .ok (.iload_n 3, 1) := dq_at (q := (23, .iload_n 3, 1)) dm_Mo_line_0 11 rfl
theorem dc_Mo_line_24 : decode cd_Mo_line 24 = .ok (.aload_n 0, 1) := dq_at (q := (24, .aload_n 0, 1)) dm_Mo_line_0 12 rfl
theorem dc_Mo_line_25 : decode cd_Mo_line 25 = .ok (.getfield 7, 3) := dq_at (q := (25, .getfield 7, 3)) dm_Mo_line_0 13 rfl
theorem dc_Mo_line_28 : decode cd_Mo_line 28 = .ok (.if_icmp .le 7, 3) := dq_at (q := (28, .if_icmp .le 7, 3)) dm_Mo_line_0 14 rfl
theorem dc_Mo_line_31 : decode cd_Mo_line 31 = .ok (.iconst 2, 1) := dq_at (q := (31, .iconst 2, 1)) dm_Mo_line_0 15 rfl
theorem dc_Mo_line_32 : decode cd_Mo_line 32 = .ok (.goto 4, 3) := dq_at (q := (32, .goto 4, 3)) dm_Mo_line_0 16 rfl
theorem dc_Mo_line_35 : decode cd_Mo_line 35 = .ok (.iconst 0, 1) := dq_at (q := (35, .iconst 0, 1)) dm_Mo_line_0 17 rfl
theorem dc_Mo_line_36 : decode cd_Mo_line 36 = .ok (.putfield 75, 3) := dq_at (q := (36, .putfield 75, 3)) dm_Mo_line_0 18 rfl
theorem dc_Mo_line_39 : decode cd_Mo_line 39 = .ok (.aload_n 0, 1) := dq_at (q := (39, .aload_n 0, 1)) dm_Mo_line_0 19 rfl
theorem dc_Mo_line_40 : decode cd_Mo_line 40 = .ok (.getfield 75, 3) := dq_at (q := (40, .getfield 75, 3)) dm_Mo_line_0 20 rfl
theorem dc_Mo_line_43 : decode cd_Mo_line 43 = .ok (.ifCond .le 5, 3) := dq_at (q := (43, .ifCond .le 5, 3)) dm_Mo_line_0 21 rfl
theorem dc_Mo_line_46 : decode cd_Mo_line 46 = .ok (.iconst 0, 1) := dq_at (q := (46, .iconst 0, 1)) dm_Mo_line_0 22 rfl
theorem dc_Mo_line_47 : decode cd_Mo_line 47 = .ok (.ireturn, 1) := dq_at (q := (47, .ireturn, 1)) dm_Mo_line_0 23 rfl
theorem dc_Mo_line_48 : decode cd_Mo_line 48 = .ok (.aload_n 0, 1) := dq_at (q := (48, .aload_n 0, 1)) dm_Mo_line_0 24 rfl
theorem dc_Mo_line_49 : decode cd_Mo_line 49 = .ok (.iload_n 1, 1) := dq_at (q := (49, .iload_n 1, 1)) dm_Mo_line_0 25 rfl
theorem dc_Mo_line_50 : decode cd_Mo_line 50 = .ok (.iload_n 2, 1) := dq_at (q := (50, .iload_n 2, 1)) dm_Mo_line_0 26 rfl
theorem dc_Mo_line_51 : decode cd_Mo_line 51 = .ok (.invokevirtual 142, 3) := dq_at (q := (51, .invokevirtual 142, 3)) dm_Mo_line_0 27 rfl
theorem dc_Mo_line_54 : decode cd_Mo_line 54 = .ok (.bipush 100, 2) := dq_at (q := (54, .bipush 100, 2)) dm_Mo_line_0 28 rfl
theorem dc_Mo_line_56 : decode cd_Mo_line 56 = .ok (.aload_n 0, 1) := dq_at (q := (56, .aload_n 0, 1)) dm_Mo_line_0 29 rfl
theorem dc_Mo_line_57 : decode cd_Mo_line 57 = .ok (.iload_n 3, 1) := dq_at (q := (57, .iload_n 3, 1)) dm_Mo_line_0 30 rfl
theorem dc_Mo_line_58 : decode cd_Mo_line 58 = .ok (.invokevirtual 128, 3) := dq_at (q := (58, .invokevirtual 128, 3)) dm_Mo_line_0 31 rfl
theorem dc_Mo_line_61 : decode cd_Mo_line 61 = .ok (.imul, 1) := dq_at (q := (61, .imul, 1)) dm_Mo_line_0 32 rfl
theorem dc_Mo_line_62 : decode cd_Mo_line 62 = .ok (.aload_n 0, 1) := dq_at (q := (62, .aload_n 0, 1)) dm_Mo_line_0 33 rfl
theorem dc_Mo_line_63 : decode cd_Mo_line 63 = .ok (.iload_n 3, 1) := dq_at (q := (63, .iload_n 3, 1)) dm_Mo_line_0 34 rfl
theorem dc_Mo_line_64 : decode cd_Mo_line 64 = .ok (.invokevirtual 132, 3) := dq_at (q := (64, .invokevirtual 132, 3)) dm_Mo_line_0 35 rfl
theorem dc_Mo_line_67 : decode cd_Mo_line 67 = .ok (.iadd, 1) := dq_at (q := (67, .iadd, 1)) dm_Mo_line_0 36 rfl
theorem dc_Mo_line_68 : decode cd_Mo_line 68 = .ok (.ireturn, 1) := dq_at (q := (68, .ireturn, 1)) dm_Mo_line_0 37 rfl
def dl_Mo_interval_0 : List (Nat × Instr × Nat) := [(0, .aload_n 0, 1), (1, .iload_n 1, 1), (2, .invokestatic 87, 3), (5, .ifCond .ne 10, 3), (8, .iload_n 2, 1), (9, .invokestatic 87, 3), (12, .ifCond .eq 7, 3), (15, .iconst 1, 1), (16, .goto 4, 3), (19, .iconst 0, 1), (20, .putfield 75, 3), (23, .aload_n 0, 1), (24, .getfield 75, 3), (27, .ifCond .le 5, 3), (30, .iconst 0, 1), (31, .ireturn, 1), (32, .aload_n 0, 1), (33, .aload_n 0, 1), (34, .getfield 13, 3), (37, .bipush 6, 2), (39, .iload_n 1, 1), (40, .imul, 1), (41, .aload_n 0, 1), (42, .getfield 13, 3), (45, .bipush 6, 2), (47, .iload_n 2, 1), (48, .imul, 1), (49, .invokevirtual 120, 3), (52, .iconst 0, 1), (53, .istore 4, 2), (55, .iconst 0, 1), (56, .istore 5, 2), (58, .iload 5, 2), (60, .aload_n 0, 1), (61, .getfield 7, 3), (64, .if_icmp .ge 147, 3), (67, .iload 5, 2), (69, .iconst 1, 1), (70, .iadd, 1), (71, .istore 6, 2), (73, .iload 6, 2), (75, .aload_n 0, 1), (76, .getfield 7, 3), (79, .if_icmp .ge 126, 3), (82, .bipush 99, 2), (84, .istore 7, 2), (86, .iconst 0, 1), (87, .istore 8, 2), (89, .iload 5, 2), (91, .istore 9, 2), (93, .iload 9, 2), (95, .iload 6, 2), (97, .if_icmp .gt 71, 3), (100, .aload_n 0, 1), (101, .getfield 45, 3), (104, .iload 9, 2), (106, .iaload, 1), (107, .ifCond .ge 14, 3), (110, .aload_n 0, 1), (111, .getfield 45, 3)]
theorem dm_Mo_interval_0 : dl_Mo_interval_0.all (fun q => decide (decode cd_Mo_interval q.1 = .ok (q.2.1, q.2.2))) = true := by decide +kernel
theorem dc_Mo_interval_0 : decode cd_Mo_interval 0 = .ok (.aload_n 0, 1) := dq_at (q := (0, .aload_n 0, 1)) dm_Mo_interval_0 0 rfl
theorem dc_Mo_interval_1 : decode cd_Mo_interval 1 = .ok (.iload_n 1, 1) := dq_at (q := (1, .iload_n 1, 1)) dm_Mo_interval_0 1 rfl
theorem dc_Mo_interval_2 : decode cd_Mo_interval 2 = .ok (.invokestatic 87, 3) := dq_at (q := (2, .invokestatic 87, 3)) dm_Mo_interval_0 2 rfl
theorem dc_Mo_interval_5 : decode cd_Mo_interval 5 = .ok (.ifCond .ne 10, 3) := dq_at (q := (5, .ifCond .ne 10, 3)) dm_Mo_interval_0 3 rfl
theorem dc_Mo_interval_8 : decode cd_Mo_interval 8 = .ok (.iload_n 2, 1) := dq_at (q := (8, .iload_n 2, 1)) dm_Mo_interval_0 4 rfl
theorem dc_Mo_interval_9 : decode cd_Mo_interval 9 = .ok (.invokestatic 87, 3) := dq_at (q := (9, .invokestatic 87, 3)) dm_Mo_interval_0 5 rfl
theorem dc_Mo_interval_12 : decode cd_Mo_interval 12 = .ok (.ifCond .eq 7, 3) := dq_at (q := (12, .ifCond .eq 7, 3)) dm_Mo_interval_0 6 rfl
theorem dc_Mo_interval_15 : decode cd_Mo_interval 15 = .ok (.iconst 1, 1) := dq_at (q := (15, .iconst 1, 1)) dm_Mo_interval_0 7 rfl
theorem dc_Mo_interval_16 : decode cd_Mo_interval 16 = .ok (.goto 4, 3) := dq_at (q := (16, .goto 4, 3)) dm_Mo_interval_0 8 rfl
theorem dc_Mo_interval_19 : decode cd_Mo_interval 19 = .ok (.iconst 0, 1) := dq_at (q := (19, .iconst 0, 1)) dm_Mo_interval_0 9 rfl
theorem dc_Mo_interval_20 : decode cd_Mo_interval 20 = .ok (.putfield 75, 3) := dq_at (q := (20, .putfield 75, 3)) dm_Mo_interval_0 10 rfl
theorem dc_Mo_interval_23 : decode cd_Mo_interval 23 = .ok (.aload_n 0, 1) := dq_at (q := (23, .aload_n 0, 1)) dm_Mo_interval_0 11 rfl
theorem dc_Mo_interval_24 : decode cd_Mo_interval 24 = .ok (.getfield 75, 3) := dq_at (q := (24, .getfield 75, 3)) dm_Mo_interval_0 12 rfl
theorem dc_Mo_interval_27 : decode cd_Mo_interval 27 = .ok (.ifCond .le 5, 3) := dq_at (q := (27, .ifCond .le 5, 3)) dm_Mo_interval_0 13 rfl
theorem dc_Mo_interval_30 : decode cd_Mo_interval 30 = .ok (.iconst 0, 1) := dq_at (q := (30, .iconst 0, 1)) dm_Mo_interval_0 14 rfl
theorem dc_Mo_interval_31 : decode cd_Mo_interval 31 = .ok (.ireturn, 1) := dq_at (q := (31, .ireturn, 1)) dm_Mo_interval_0 15 rfl
theorem dc_Mo_interval_32 : decode cd_Mo_interval 32 = .ok (.aload_n 0, 1) := dq_at (q := (32, .aload_n 0, 1)) dm_Mo_interval_0 16 rfl
theorem dc_Mo_interval_33 : decode cd_Mo_interval 33 = .ok (.aload_n 0, 1) := dq_at (q := (33, .aload_n 0, 1)) dm_Mo_interval_0 17 rfl
theorem dc_Mo_interval_34 : decode cd_Mo_interval 34 = .ok (.getfield 13, 3) := dq_at (q := (34, .getfield 13, 3)) dm_Mo_interval_0 18 rfl
theorem dc_Mo_interval_37 : decode cd_Mo_interval 37 = .ok (.bipush 6, 2) := dq_at (q := (37, .bipush 6, 2)) dm_Mo_interval_0 19 rfl
theorem dc_Mo_interval_39 : decode cd_Mo_interval 39 = .ok (.iload_n 1, 1) := dq_at (q := (39, .iload_n 1, 1)) dm_Mo_interval_0 20 rfl
theorem dc_Mo_interval_40 : decode cd_Mo_interval 40 = .ok (.imul, 1) := dq_at (q := (40, .imul, 1)) dm_Mo_interval_0 21 rfl
theorem dc_Mo_interval_41 : decode cd_Mo_interval 41 = .ok (.aload_n 0, 1) := dq_at (q := (41, .aload_n 0, 1)) dm_Mo_interval_0 22 rfl
theorem dc_Mo_interval_42 : decode cd_Mo_interval 42 = .ok (.getfield 13, 3) := dq_at (q := (42, .getfield 13, 3)) dm_Mo_interval_0 23 rfl
theorem dc_Mo_interval_45 : decode cd_Mo_interval 45 = .ok (.bipush 6, 2) := dq_at (q := (45, .bipush 6, 2)) dm_Mo_interval_0 24 rfl
theorem dc_Mo_interval_47 : decode cd_Mo_interval 47 = .ok (.iload_n 2, 1) := dq_at (q := (47, .iload_n 2, 1)) dm_Mo_interval_0 25 rfl
theorem dc_Mo_interval_48 : decode cd_Mo_interval 48 = .ok (.imul, 1) := dq_at (q := (48, .imul, 1)) dm_Mo_interval_0 26 rfl
theorem dc_Mo_interval_49 : decode cd_Mo_interval 49 = .ok (.invokevirtual 120, 3) := dq_at (q := (49, .invokevirtual 120, 3)) dm_Mo_interval_0 27 rfl
theorem dc_Mo_interval_52 : decode cd_Mo_interval 52 = .ok (.iconst 0, 1) := dq_at (q := (52, .iconst 0, 1)) dm_Mo_interval_0 28 rfl
theorem dc_Mo_interval_53 : decode cd_Mo_interval 53 = .ok (.istore 4, 2) := dq_at (q := (53, .istore 4, 2)) dm_Mo_interval_0 29 rfl
theorem dc_Mo_interval_55 : decode cd_Mo_interval 55 = .ok (.iconst 0, 1) := dq_at (q := (55, .iconst 0, 1)) dm_Mo_interval_0 30 rfl
theorem dc_Mo_interval_56 : decode cd_Mo_interval 56 = .ok (.istore 5, 2) := dq_at (q := (56, .istore 5, 2)) dm_Mo_interval_0 31 rfl
theorem dc_Mo_interval_58 : decode cd_Mo_interval 58 = .ok (.iload 5, 2) := dq_at (q := (58, .iload 5, 2)) dm_Mo_interval_0 32 rfl
theorem dc_Mo_interval_60 : decode cd_Mo_interval 60 = .ok (.aload_n 0, 1) := dq_at (q := (60, .aload_n 0, 1)) dm_Mo_interval_0 33 rfl
theorem dc_Mo_interval_61 : decode cd_Mo_interval 61 = .ok (.getfield 7, 3) := dq_at (q := (61, .getfield 7, 3)) dm_Mo_interval_0 34 rfl
theorem dc_Mo_interval_64 : decode cd_Mo_interval 64 = .ok (.if_icmp .ge 147, 3) := dq_at (q := (64, .if_icmp .ge 147, 3)) dm_Mo_interval_0 35 rfl
theorem dc_Mo_interval_67 : decode cd_Mo_interval 67 = .ok (.iload 5, 2) := dq_at (q := (67, .iload 5, 2)) dm_Mo_interval_0 36 rfl
theorem dc_Mo_interval_69 : decode cd_Mo_interval 69 = .ok (.iconst 1, 1) := dq_at (q := (69, .iconst 1, 1)) dm_Mo_interval_0 37 rfl
theorem dc_Mo_interval_70 : decode cd_Mo_interval 70 = .ok (.iadd, 1) := dq_at (q := (70, .iadd, 1)) dm_Mo_interval_0 38 rfl
theorem dc_Mo_interval_71 : decode cd_Mo_interval 71 = .ok (.istore 6, 2) := dq_at (q := (71, .istore 6, 2)) dm_Mo_interval_0 39 rfl
theorem dc_Mo_interval_73 : decode cd_Mo_interval 73 = .ok (.iload 6, 2) := dq_at (q := (73, .iload 6, 2)) dm_Mo_interval_0 40 rfl
theorem dc_Mo_interval_75 : decode cd_Mo_interval 75 = .ok (.aload_n 0, 1) := dq_at (q := (75, .aload_n 0, 1)) dm_Mo_interval_0 41 rfl
theorem dc_Mo_interval_76 : decode cd_Mo_interval 76 = .ok (.getfield 7, 3) := dq_at (q := (76, .getfield 7, 3)) dm_Mo_interval_0 42 rfl
theorem dc_Mo_interval_79 : decode cd_Mo_interval 79 = .ok (.if_icmp .ge 126, 3) := dq_at (q := (79, .if_icmp .ge 126, 3)) dm_Mo_interval_0 43 rfl
theorem dc_Mo_interval_82 : decode cd_Mo_interval 82 = .ok (.bipush 99, 2) := dq_at (q := (82, .bipush 99, 2)) dm_Mo_interval_0 44 rfl
theorem dc_Mo_interval_84 : decode cd_Mo_interval 84 = .ok (.istore 7, 2) := dq_at (q := (84, .istore 7, 2)) dm_Mo_interval_0 45 rfl
theorem dc_Mo_interval_86 : decode cd_Mo_interval 86 = .ok (.iconst 0, 1) := dq_at (q := (86, .iconst 0, 1)) dm_Mo_interval_0 46 rfl
theorem dc_Mo_interval_87 : decode cd_Mo_interval 87 = .ok (.istore 8, 2) := dq_at (q := (87, .istore 8, 2)) dm_Mo_interval_0 47 rfl
theorem dc_Mo_interval_89 : decode cd_Mo_interval 89 = .ok (.iload 5, 2) := dq_at (q := (89, .iload 5, 2)) dm_Mo_interval_0 48 rfl
theorem dc_Mo_interval_91 : decode cd_Mo_interval 91 = .ok (.istore 9, 2) := dq_at (q := (91, .istore 9, 2)) dm_Mo_interval_0 49 rfl
theorem dc_Mo_interval_93 : decode cd_Mo_interval 93 = .ok (.iload 9, 2) := dq_at (q := (93, .iload 9, 2)) dm_Mo_interval_0 50 rfl
theorem dc_Mo_interval_95 : decode cd_Mo_interval 95 = .ok (.iload 6, 2) := dq_at (q := (95, .iload 6, 2)) dm_Mo_interval_0 51 rfl
theorem dc_Mo_interval_97 : decode cd_Mo_interval 97 = .ok (.if_icmp .gt 71, 3) := dq_at (q := (97, .if_icmp .gt 71, 3)) dm_Mo_interval_0 52 rfl
theorem dc_Mo_interval_100 : decode cd_Mo_interval 100 = .ok (.aload_n 0, 1) := dq_at (q := (100, .aload_n 0, 1)) dm_Mo_interval_0 53 rfl
theorem dc_Mo_interval_101 : decode cd_Mo_interval 101 = .ok (.getfield 45, 3) := dq_at (q := (101, .getfield 45, 3)) dm_Mo_interval_0 54 rfl
theorem dc_Mo_interval_104 : decode cd_Mo_interval 104 = .ok (.iload 9, 2) := dq_at (q := (104, .iload 9, 2)) dm_Mo_interval_0 55 rfl
theorem dc_Mo_interval_106 : decode cd_Mo_interval 106 = .ok (.iaload, 1) := dq_at (q := (106, .iaload, 1)) dm_Mo_interval_0 56 rfl
theorem dc_Mo_interval_107 : decode cd_Mo_interval 107 = .ok (.ifCond .ge 14, 3) := dq_at (q := (107, .ifCond .ge 14, 3)) dm_Mo_interval_0 57 rfl
theorem dc_Mo_interval_110 : decode cd_Mo_interval 110 = .ok (.aload_n 0, 1) := dq_at (q := (110, .aload_n 0, 1)) dm_Mo_interval_0 58 rfl
theorem dc_Mo_interval_111 : decode cd_Mo_interval 111 = .ok (.getfield 45, 3) := dq_at (q := (111, .getfield 45, 3)) dm_Mo_interval_0 59 rfl
def dl_Mo_interval_60 : List (Nat × Instr × Nat) := [(114, .iload 9, 2), (116, .iaload, 1), (117, .ineg, 1), (118, .goto 10, 3), (121, .aload_n 0, 1), (122, .getfield 45, 3), (125, .iload 9, 2), (127, .iaload, 1), (128, .istore 10, 2), (130, .iload 10, 2), (132, .iload 7, 2), (134, .if_icmp .ge 8, 3), (137, .iload 10, 2), (139, .goto 5, 3), (142, .iload 7, 2), (144, .istore 7, 2), (146, .iload 10, 2), (148, .iload 8, 2), (150, .if_icmp .le 8, 3), (153, .iload 10, 2), (155, .goto 5, 3), (158, .iload 8, 2), (160, .istore 8, 2), (162, .iinc 9 1, 3), (165, .goto (-72), 3), (168, .iload 8, 2), (170, .iload 7, 2), (172, .isub, 1), (173, .iload 6, 2), (175, .iload 5, 2), (177, .isub, 1), (178, .if_icmp .ne 21, 3), (181, .iload 4, 2), (183, .iload_n 3, 1), (184, .if_icmp .ne 12, 3), (187, .bipush 10, 2), (189, .iload 5, 2), (191, .imul, 1), (192, .iload 6, 2), (194, .iadd, 1), (195, .ireturn, 1), (196, .iinc 4 1, 3), (199, .iinc 6 1, 3), (202, .goto (-129), 3), (205, .iinc 5 1, 3), (208, .goto (-150), 3), (211, .iconst (-1), 1), (212, .ireturn, 1)]
theorem dm_Mo_interval_60 : dl_Mo_interval_60.all (fun q => decide (decode cd_Mo_interval q.1 = .ok (q.2.1, q.2.2))) = true := by decide +kernel
theorem dc_Mo_interval_114 : decode cd_Mo_interval 114 = .ok (.iload 9, 2) := dq_at (q := (114, .iload 9, 2)) dm_Mo_interval_60 0 rfl
theorem dc_Mo_interval_116 : decode cd_Mo_interval 116 = .ok (.iaload, 1) := dq_at (q := (116, .iaload, 1)) dm_Mo_interval_60 1 rfl
theorem dc_Mo_interval_117 : decode cd_Mo_interval 117 = .ok (.ineg, 1) := dq_at (q := (117, .ineg, 1)) dm_Mo_interval_60 2 rfl
theorem dc_Mo_interval_118 : decode cd_Mo_interval 118 = .ok (.goto 10, 3) := dq_at (q := (118, .goto 10, 3)) dm_Mo_interval_60 3 rfl
theorem dc_Mo_interval_121 : decode cd_Mo_interval 121 = .ok (.aload_n 0, 1) := dq_at (q := (121, .aload_n 0, 1)) dm_Mo_interval_60 4 rfl
theorem dc_Mo_interval_122 : decode cd_Mo_interval 122 = .ok (.getfield 45, 3) := dq_at (q := (122, .getfield 45, 3)) dm_Mo_interval_60 5 rfl
theorem dc_Mo_interval_125 : decode cd_Mo_interval 125 = .ok (.iload 9, 2) := dq_at (q := (125, .iload 9, 2)) dm_Mo_interval_60 6 rfl
theorem dc_Mo_interval_127 : decode cd_Mo_interval 127 = .ok (.iaload, 1) := dq_at (q := (127, .iaload, 1)) dm_Mo_interval_60 7 rfl
theorem dc_Mo_interval_128 : decode cd_Mo_interval 128 = .ok (.istore 10, 2) := dq_at (q := (128, .istore 10, 2)) dm_Mo_interval_60 8 rfl
theorem dc_Mo_interval_130 : decode cd_Mo_interval 130 = .ok (.iload 10, 2) := dq_at (q := (130, .iload 10, 2)) dm_Mo_interval_60 9 rfl
theorem dc_Mo_interval_132 : decode cd_Mo_interval 132 = .ok (.iload 7, 2) := dq_at (q := (132, .iload 7, 2)) dm_Mo_interval_60 10 rfl
theorem dc_Mo_interval_134 : decode cd_Mo_interval 134 = .ok (.if_icmp .ge 8, 3) := dq_at (q := (134, .if_icmp .ge 8, 3)) dm_Mo_interval_60 11 rfl
theorem dc_Mo_interval_137 : decode cd_Mo_interval 137 = .ok (.iload 10, 2) := dq_at (q := (137, .iload 10, 2)) dm_Mo_interval_60 12 rfl
theorem dc_Mo_interval_139 : decode cd_Mo_interval 139 = .ok (.goto 5, 3) := dq_at (q := (139, .goto 5, 3)) dm_Mo_interval_60 13 rfl
theorem dc_Mo_interval_142 : decode cd_Mo_interval 142 = .ok (.iload 7, 2) := dq_at (q := (142, .iload 7, 2)) dm_Mo_interval_60 14 rfl
theorem dc_Mo_interval_144 : decode cd_Mo_interval 144 = .ok (.istore 7, 2) := dq_at (q := (144, .istore 7, 2)) dm_Mo_interval_60 15 rfl
theorem dc_Mo_interval_146 : decode cd_Mo_interval 146 = .ok (.iload 10, 2) := dq_at (q := (146, .iload 10, 2)) dm_Mo_interval_60 16 rfl
theorem dc_Mo_interval_148 : decode cd_Mo_interval 148 = .ok (.iload 8, 2) := dq_at (q := (148, .iload 8, 2)) dm_Mo_interval_60 17 rfl
theorem dc_Mo_interval_150 : decode cd_Mo_interval 150 = .ok (.if_icmp .le 8, 3) := dq_at (q := (150, .if_icmp .le 8, 3)) dm_Mo_interval_60 18 rfl
theorem dc_Mo_interval_153 : decode cd_Mo_interval 153 = .ok (.iload 10, 2) := dq_at (q := (153, .iload 10, 2)) dm_Mo_interval_60 19 rfl
theorem dc_Mo_interval_155 : decode cd_Mo_interval 155 = .ok (.goto 5, 3) := dq_at (q := (155, .goto 5, 3)) dm_Mo_interval_60 20 rfl
theorem dc_Mo_interval_158 : decode cd_Mo_interval 158 = .ok (.iload 8, 2) := dq_at (q := (158, .iload 8, 2)) dm_Mo_interval_60 21 rfl
theorem dc_Mo_interval_160 : decode cd_Mo_interval 160 = .ok (.istore 8, 2) := dq_at (q := (160, .istore 8, 2)) dm_Mo_interval_60 22 rfl
theorem dc_Mo_interval_162 : decode cd_Mo_interval 162 = .ok (.iinc 9 1, 3) := dq_at (q := (162, .iinc 9 1, 3)) dm_Mo_interval_60 23 rfl
theorem dc_Mo_interval_165 : decode cd_Mo_interval 165 = .ok (.goto (-72), 3) := dq_at (q := (165, .goto (-72), 3)) dm_Mo_interval_60 24 rfl
theorem dc_Mo_interval_168 : decode cd_Mo_interval 168 = .ok (.iload 8, 2) := dq_at (q := (168, .iload 8, 2)) dm_Mo_interval_60 25 rfl
theorem dc_Mo_interval_170 : decode cd_Mo_interval 170 = .ok (.iload 7, 2) := dq_at (q := (170, .iload 7, 2)) dm_Mo_interval_60 26 rfl
theorem dc_Mo_interval_172 : decode cd_Mo_interval 172 = .ok (.isub, 1) := dq_at (q := (172, .isub, 1)) dm_Mo_interval_60 27 rfl
theorem dc_Mo_interval_173 : decode cd_Mo_interval 173 = .ok (.iload 6, 2) := dq_at (q := (173, .iload 6, 2)) dm_Mo_interval_60 28 rfl
theorem dc_Mo_interval_175 : decode cd_Mo_interval 175 = .ok (.iload 5, 2) := dq_at (q := (175, .iload 5, 2)) dm_Mo_interval_60 29 rfl
theorem dc_Mo_interval_177 : decode cd_Mo_interval 177 = .ok (.isub, 1) := dq_at (q := (177, .isub, 1)) dm_Mo_interval_60 30 rfl
theorem dc_Mo_interval_178 : decode cd_Mo_interval 178 = .ok (.if_icmp .ne 21, 3) := dq_at (q := (178, .if_icmp .ne 21, 3)) dm_Mo_interval_60 31 rfl
theorem dc_Mo_interval_181 : decode cd_Mo_interval 181 = .ok (.iload 4, 2) := dq_at (q := (181, .iload 4, 2)) dm_Mo_interval_60 32 rfl
theorem dc_Mo_interval_183 : decode cd_Mo_interval 183 = .ok (.iload_n 3, 1) := dq_at (q := (183, .iload_n 3, 1)) dm_Mo_interval_60 33 rfl
theorem dc_Mo_interval_184 : decode cd_Mo_interval 184 = .ok (.if_icmp .ne 12, 3) := dq_at (q := (184, .if_icmp .ne 12, 3)) dm_Mo_interval_60 34 rfl
theorem dc_Mo_interval_187 : decode cd_Mo_interval 187 = .ok (.bipush 10, 2) := dq_at (q := (187, .bipush 10, 2)) dm_Mo_interval_60 35 rfl
theorem dc_Mo_interval_189 : decode cd_Mo_interval 189 = .ok (.iload 5, 2) := dq_at (q := (189, .iload 5, 2)) dm_Mo_interval_60 36 rfl
theorem dc_Mo_interval_191 : decode cd_Mo_interval 191 = .ok (.imul, 1) := dq_at (q := (191, .imul, 1)) dm_Mo_interval_60 37 rfl
theorem dc_Mo_interval_192 : decode cd_Mo_interval 192 = .ok (.iload 6, 2) := dq_at (q := (192, .iload 6, 2)) dm_Mo_interval_60 38 rfl
theorem dc_Mo_interval_194 : decode cd_Mo_interval 194 = .ok (.iadd, 1) := dq_at (q := (194, .iadd, 1)) dm_Mo_interval_60 39 rfl
theorem dc_Mo_interval_195 : decode cd_Mo_interval 195 = .ok (.ireturn, 1) := dq_at (q := (195, .ireturn, 1)) dm_Mo_interval_60 40 rfl
theorem dc_Mo_interval_196 : decode cd_Mo_interval 196 = .ok (.iinc 4 1, 3) := dq_at (q := (196, .iinc 4 1, 3)) dm_Mo_interval_60 41 rfl
theorem dc_Mo_interval_199 : decode cd_Mo_interval 199 = .ok (.iinc 6 1, 3) := dq_at (q := (199, .iinc 6 1, 3)) dm_Mo_interval_60 42 rfl
theorem dc_Mo_interval_202 : decode cd_Mo_interval 202 = .ok (.goto (-129), 3) := dq_at (q := (202, .goto (-129), 3)) dm_Mo_interval_60 43 rfl
theorem dc_Mo_interval_205 : decode cd_Mo_interval 205 = .ok (.iinc 5 1, 3) := dq_at (q := (205, .iinc 5 1, 3)) dm_Mo_interval_60 44 rfl
theorem dc_Mo_interval_208 : decode cd_Mo_interval 208 = .ok (.goto (-150), 3) := dq_at (q := (208, .goto (-150), 3)) dm_Mo_interval_60 45 rfl
theorem dc_Mo_interval_211 : decode cd_Mo_interval 211 = .ok (.iconst (-1), 1) := dq_at (q := (211, .iconst (-1), 1)) dm_Mo_interval_60 46 rfl
theorem dc_Mo_interval_212 : decode cd_Mo_interval 212 = .ok (.ireturn, 1) := dq_at (q := (212, .ireturn, 1)) dm_Mo_interval_60 47 rfl
def dl_Mo_scenario_0 : List (Nat × Instr × Nat) := [(0, .aload_n 0, 1), (1, .iload_n 1, 1), (2, .invokestatic 87, 3), (5, .ifCond .ne 10, 3), (8, .iload_n 2, 1), (9, .invokestatic 87, 3), (12, .ifCond .eq 7, 3), (15, .iconst 1, 1), (16, .goto 4, 3), (19, .iconst 0, 1), (20, .putfield 75, 3), (23, .aload_n 0, 1), (24, .getfield 75, 3), (27, .ifCond .le 5, 3), (30, .iconst 0, 1), (31, .ireturn, 1), (32, .aload_n 0, 1), (33, .invokevirtual 117, 3), (36, .aload_n 0, 1), (37, .aload_n 0, 1), (38, .getfield 13, 3), (41, .bipush 6, 2), (43, .iload_n 1, 1), (44, .imul, 1), (45, .aload_n 0, 1), (46, .getfield 13, 3), (49, .bipush 6, 2), (51, .iload_n 2, 1), (52, .imul, 1), (53, .invokevirtual 120, 3), (56, .aload_n 0, 1), (57, .iconst 1, 1), (58, .putfield 78, 3), (61, .aload_n 0, 1), (62, .iconst 0, 1), (63, .putfield 158, 3), (66, .aload_n 0, 1), (67, .getfield 34, 3), (70, .aload_n 0, 1), (71, .getfield 95, 3), (74, .aload_n 0, 1), (75, .aload_n 0, 1), (76, .getfield 45, 3), (79, .invokevirtual 113, 3), (82, .iadd, 1), (83, .iaload, 1), (84, .istore_n 3, 1), (85, .iconst 0, 1), (86, .istore 4, 2), (88, .iconst 0, 1), (89, .istore 5, 2), (91, .iload_n 3, 1), (92, .ifCond .le 135, 3), (95, .aload_n 0, 1), (96, .getfield 45, 3), (99, .iconst 0, 1), (100, .iload 4, 2), (102, .iload 5, 2), (104, .invokestatic 91, 3), (107, .aload_n 0, 1)]
theorem dm_Mo_scenario_0 : dl_Mo_scenario_0.all (fun q => decide (decode cd_Mo_scenario q.1 = .ok (q.2.1, q.2.2))) = true := by decide +kernel
theorem dc_Mo_scenario_0 : decode cd_Mo_scenario 0 = .ok (.aload_n 0, 1) := dq_at (q := (0, .aload_n 0, 1)) dm_Mo_scenario_0 0 rfl
theorem dc_Mo_scenario_1 : decode cd_Mo_scenario 1 = .ok (.iload_n 1, 1) := dq_at (q := (1, .iload_n 1, 1)) dm_Mo_scenario_0 1 rfl
theorem dc_Mo_scenario_2 : decode cd_Mo_scenario 2 = .ok (.invokestatic 87, 3) := dq_at (q := (2, .invokestatic 87, 3)) dm_Mo_scenario_0 2 rfl
theorem dc_Mo_scenario_5 : decode cd_Mo_scenario 5 = .ok (.ifCond .ne 10, 3) := dq_at (q := (5, .ifCond .ne 10, 3)) dm_Mo_scenario_0 3 rfl
theorem dc_Mo_scenario_8 : decode cd_Mo_scenario 8 = .ok (.iload_n 2, 1) := dq_at (q := (8, .iload_n 2, 1)) dm_Mo_scenario_0 4 rfl
theorem dc_Mo_scenario_9 : decode cd_Mo_scenario 9 = .ok (.invokestatic 87, 3) := dq_at (q := (9, .invokestatic 87, 3)) dm_Mo_scenario_0 5 rfl
theorem dc_Mo_scenario_12 : decode cd_Mo_scenario 12 = .ok (.ifCond .eq 7, 3) := dq_at (q := (12, .ifCond .eq 7, 3)) dm_Mo_scenario_0 6 rfl
theorem dc_Mo_scenario_15 : decode cd_Mo_scenario 15 = .ok (.iconst 1, 1) := dq_at (q := (15, .iconst 1, 1)) dm_Mo_scenario_0 7 rfl
theorem dc_Mo_scenario_16 : decode cd_Mo_scenario 16 = .ok (.goto 4, 3) := dq_at (q := (16, .goto 4, 3)) dm_Mo_scenario_0 8 rfl
theorem dc_Mo_scenario_19 : decode cd_Mo_scenario 19 = .ok (.iconst 0, 1) := dq_at (q := (19, .iconst 0, 1)) dm_Mo_scenario_0 9 rfl
theorem dc_Mo_scenario_20 : decode cd_Mo_scenario 20 = .ok (.putfield 75, 3) := dq_at (q := (20, .putfield 75, 3)) dm_Mo_scenario_0 10 rfl
theorem dc_Mo_scenario_23 : decode cd_Mo_scenario 23 = .ok (.aload_n 0, 1) := dq_at (q := (23, .aload_n 0, 1)) dm_Mo_scenario_0 11 rfl
theorem dc_Mo_scenario_24 : decode cd_Mo_scenario 24 = .ok (.getfield 75, 3) := dq_at (q := (24, .getfield 75, 3)) dm_Mo_scenario_0 12 rfl
theorem dc_Mo_scenario_27 : decode cd_Mo_scenario 27 = .ok (.ifCond .le 5, 3) := dq_at (q := (27, .ifCond .le 5, 3)) dm_Mo_scenario_0 13 rfl
theorem dc_Mo_scenario_30 : decode cd_Mo_scenario 30 = .ok (.iconst 0, 1) := dq_at (q := (30, .iconst 0, 1)) dm_Mo_scenario_0 14 rfl
theorem dc_Mo_scenario_31 : decode cd_Mo_scenario 31 = .ok (.ireturn, 1) := dq_at (q := (31, .ireturn, 1)) dm_Mo_scenario_0 15 rfl
theorem dc_Mo_scenario_32 : decode cd_Mo_scenario 32 = .ok (.aload_n 0, 1) := dq_at (q := (32, .aload_n 0, 1)) dm_Mo_scenario_0 16 rfl
theorem dc_Mo_scenario_33 : decode cd_Mo_scenario 33 = .ok (.invokevirtual 117, 3) := dq_at (q := (33, .invokevirtual 117, 3)) dm_Mo_scenario_0 17 rfl
theorem dc_Mo_scenario_36 : decode cd_Mo_scenario 36 = .ok (.aload_n 0, 1) := dq_at (q := (36, .aload_n 0, 1)) dm_Mo_scenario_0 18 rfl
theorem dc_Mo_scenario_37 : decode cd_Mo_scenario 37 = .ok (.aload_n 0, 1) := dq_at (q := (37, .aload_n 0, 1)) dm_Mo_scenario_0 19 rfl
theorem dc_Mo_scenario_38 : decode cd_Mo_scenario 38 = .ok (.getfield 13, 3) := dq_at (q := (38, .getfield 13, 3)) dm_Mo_scenario_0 20 rfl
theorem dc_Mo_scenario_41 : decode cd_Mo_scenario 41 = .ok (.bipush 6, 2) := dq_at (q := (41, .bipush 6, 2)) dm_Mo_scenario_0 21 rfl
theorem dc_Mo_scenario_43 : decode cd_Mo_scenario 43 = .ok (.iload_n 1, 1) := dq_at (q := (43, .iload_n 1, 1)) dm_Mo_scenario_0 22 rfl
theorem dc_Mo_scenario_44 : decode cd_Mo_scenario 44 = .ok (.imul, 1) := dq_at (q := (44, .imul, 1)) dm_Mo_scenario_0 23 rfl
theorem dc_Mo_scenario_45 : decode cd_Mo_scenario 45 = .ok (.aload_n 0, 1) := dq_at (q := (45, .aload_n 0, 1)) dm_Mo_scenario_0 24 rfl
theorem dc_Mo_scenario_46 : decode cd_Mo_scenario 46 = .ok (.getfield 13, 3) := dq_at (q := (46, .getfield 13, 3)) dm_Mo_scenario_0 25 rfl
theorem dc_Mo_scenario_49 : decode cd_Mo_scenario 49 = .ok (.bipush 6, 2) := dq_at (q := (49, .bipush 6, 2)) dm_Mo_scenario_0 26 rfl
theorem dc_Mo_scenario_51 : decode cd_Mo_scenario 51 = .ok (.iload_n 2, 1) := dq_at (q := (51, .iload_n 2, 1)) dm_Mo_scenario_0 27 rfl
theorem dc_Mo_scenario_52 : decode cd_Mo_scenario 52 = .ok (.imul, 1) := dq_at (q := (52, .imul, 1)) dm_Mo_scenario_0 28 rfl
theorem dc_Mo_scenario_53 : decode cd_Mo_scenario 53 = .ok (.invokevirtual 120, 3) := dq_at (q := (53, .invokevirtual 120, 3)) dm_Mo_scenario_0 29 rfl
theorem dc_Mo_scenario_56 : decode cd_Mo_scenario 56 = .ok (.aload_n 0, 1) := dq_at (q := (56, .aload_n 0, 1)) dm_Mo_scenario_0 30 rfl
theorem dc_Mo_scenario_57 : decode cd_Mo_scenario 57 = .ok (.iconst 1, 1) := dq_at (q := (57, .iconst 1, 1)) dm_Mo_scenario_0 31 rfl
theorem dc_Mo_scenario_58 : decode cd_Mo_scenario 58 = .ok (.putfield 78, 3) := dq_at (q := (58, .putfield 78, 3)) dm_Mo_scenario_0 32 rfl
theorem dc_Mo_scenario_61 : decode cd_Mo_scenario 61 = .ok (.aload_n 0, 1) := dq_at (q := (61, .aload_n 0, 1)) dm_Mo_scenario_0 33 rfl
theorem dc_Mo_scenario_62 : decode cd_Mo_scenario 62 = .ok (.iconst 0, 1) := dq_at (q := (62, .iconst 0, 1)) dm_Mo_scenario_0 34 rfl
theorem dc_Mo_scenario_63 : decode cd_Mo_scenario 63 = .ok (.putfield 158, 3) := dq_at (q := (63, .putfield 158, 3)) dm_Mo_scenario_0 35 rfl
theorem dc_Mo_scenario_66 : decode cd_Mo_scenario 66 = .ok (.aload_n 0, 1) := dq_at (q := (66, .aload_n 0, 1)) dm_Mo_scenario_0 36 rfl
theorem dc_Mo_scenario_67 : decode cd_Mo_scenario 67 = .ok (.getfield 34, 3) := dq_at (q := (67, .getfield 34, 3)) dm_Mo_scenario_0 37 rfl
theorem dc_Mo_scenario_70 : decode cd_Mo_scenario 70 = .ok (.aload_n 0, 1) := dq_at (q := (70, .aload_n 0, 1)) dm_Mo_scenario_0 38 rfl
theorem dc_Mo_scenario_71 : decode cd_Mo_scenario 71 = .ok (.getfield 95, 3) := dq_at (q := (71, .getfield 95, 3)) dm_Mo_scenario_0 39 rfl
theorem dc_Mo_scenario_74 : decode cd_Mo_scenario 74 = .ok (.aload_n 0, 1) := dq_at (q := (74, .aload_n 0, 1)) dm_Mo_scenario_0 40 rfl
theorem dc_Mo_scenario_75 : decode cd_Mo_scenario 75 = .ok (.aload_n 0, 1) := dq_at (q := (75, .aload_n 0, 1)) dm_Mo_scenario_0 41 rfl
theorem dc_Mo_scenario_76 : decode cd_Mo_scenario 76 = .ok (.getfield 45, 3) := dq_at (q := (76, .getfield 45, 3)) dm_Mo_scenario_0 42 rfl
theorem dc_Mo_scenario_79 : decode cd_Mo_scenario 79 = .ok (.invokevirtual 113, 3) := dq_at (q := (79, .invokevirtual 113, 3)) dm_Mo_scenario_0 43 rfl
theorem dc_Mo_scenario_82 : decode cd_Mo_scenario 82 = .ok (.iadd, 1) := dq_at (q := (82, .iadd, 1)) dm_Mo_scenario_0 44 rfl
theorem dc_Mo_scenario_83 : decode cd_Mo_scenario 83 = .ok (.iaload, 1) := dq_at (q := (83, .iaload, 1)) dm_Mo_scenario_0 45 rfl
theorem dc_Mo_scenario_84 : decode cd_Mo_scenario 84 = .ok (.istore_n 3, 1) := dq_at (q := (84, .istore_n 3, 1)) dm_Mo_scenario_0 46 rfl
theorem dc_Mo_scenario_85 : decode cd_Mo_scenario 85 = .ok (.iconst 0, 1) := dq_at (q := (85, .iconst 0, 1)) dm_Mo_scenario_0 47 rfl
theorem dc_Mo_scenario_86 : decode cd_Mo_scenario 86 = .ok (.istore 4, 2) := dq_at (q := (86, .istore 4, 2)) dm_Mo_scenario_0 48 rfl
theorem dc_Mo_scenario_88 : decode cd_Mo_scenario 88 = .ok (.iconst 0, 1) := dq_at (q := (88, .iconst 0, 1)) dm_Mo_scenario_0 49 rfl
theorem dc_Mo_scenario_89 : decode cd_Mo_scenario 89 = .ok (.istore 5, 2) := dq_at (q := (89, .istore 5, 2)) dm_Mo_scenario_0 50 rfl
theorem dc_Mo_scenario_91 : decode cd_Mo_scenario 91 = .ok (.iload_n 3, 1) := dq_at (q := (91, .iload_n 3, 1)) dm_Mo_scenario_0 51 rfl
theorem dc_Mo_scenario_92 : decode cd_Mo_scenario 92 = .ok (.ifCond .le 135, 3) := dq_at (q := (92, .ifCond .le 135, 3)) dm_Mo_scenario_0 52 rfl
theorem dc_Mo_scenario_95 : decode cd_Mo_scenario 95 = .ok (.aload_n 0, 1) := dq_at (q := (95, .aload_n 0, 1)) dm_Mo_scenario_0 53 rfl
theorem dc_Mo_scenario_96 : decode cd_Mo_scenario 96 = .ok (.getfield 45, 3) := dq_at (q := (96, .getfield 45, 3)) dm_Mo_scenario_0 54 rfl
theorem dc_Mo_scenario_99 : decode cd_Mo_scenario 99 = .ok (.iconst 0, 1) := dq_at (q := (99, .iconst 0, 1)) dm_Mo_scenario_0 55 rfl
theorem dc_Mo_scenario_100 : decode cd_Mo_scenario 100 = .ok (.iload 4, 2) := dq_at (q := (100, .iload 4, 2)) dm_Mo_scenario_0 56 rfl
theorem dc_Mo_scenario_102 : decode cd_Mo_scenario 102 = .ok (.iload 5, 2) := dq_at (q := (102, .iload 5, 2)) dm_Mo_scenario_0 57 rfl
theorem dc_Mo_scenario_104 : decode cd_Mo_scenario 104 = .ok (.invokestatic 91, 3) := dq_at (q := (104, .invokestatic 91, 3)) dm_Mo_scenario_0 58 rfl
theorem dc_Mo_scenario_107 : decode cd_Mo_scenario 107 = .ok (.aload_n 0, 1) := dq_at (q := (107, .aload_n 0, 1)) dm_Mo_scenario_0 59 rfl
def dl_Mo_scenario_60 : List (Nat × Instr × Nat) := [(108, .getfield 34, 3), (111, .aload_n 0, 1), (112, .getfield 95, 3), (115, .aload_n 0, 1), (116, .aload_n 0, 1), (117, .getfield 45, 3), (120, .invokevirtual 113, 3), (123, .iadd, 1), (124, .iaload, 1), (125, .iload_n 3, 1), (126, .if_icmp .ge 42, 3), (129, .iinc 3 (-1), 3), (132, .aload_n 0, 1), (133, .getfield 26, 3), (136, .aload_n 0, 1), (137, .getfield 158, 3), (140, .bipush 10, 2), (142, .iload 4, 2), (144, .imul, 1), (145, .iload 5, 2), (147, .iadd, 1), (148, .iastore, 1), (149, .aload_n 0, 1), (150, .dup, 1), (151, .getfield 158, 3), (154, .iconst 1, 1), (155, .iadd, 1), (156, .putfield 158, 3), (159, .iconst 0, 1), (160, .istore 4, 2), (162, .iconst 0, 1), (163, .istore 5, 2), (165, .goto (-74), 3), (168, .aload_n 0, 1), (169, .getfield 45, 3), (172, .iconst 0, 1), (173, .iload 4, 2), (175, .iload 5, 2), (177, .invokestatic 91, 3), (180, .iload 5, 2), (182, .iconst 1, 1), (183, .iadd, 1), (184, .aload_n 0, 1), (185, .getfield 7, 3), (188, .if_icmp .ne 10, 3), (191, .iload 4, 2), (193, .iconst 1, 1), (194, .iadd, 1), (195, .goto 5, 3), (198, .iload 4, 2), (200, .istore 4, 2), (202, .iload 5, 2), (204, .iconst 1, 1), (205, .iadd, 1), (206, .aload_n 0, 1), (207, .getfield 7, 3), (210, .if_icmp .ne 8, 3), (213, .iload 4, 2), (215, .goto 7, 3), (218, .iload 5, 2)]
theorem dm_Mo_scenario_60 : dl_Mo_scenario_60.all (fun q => decide (decode cd_Mo_scenario q.1 = .ok (q.2.1, q.2.2))) = true := by decide +kernel
theorem dc_Mo_scenario_108 : decode cd_Mo_scenario 108 = .ok (.getfield 34, 3) := dq_at (q := (108, .getfield 34, 3)) dm_Mo_scenario_60 0 rfl
theorem dc_Mo_scenario_111 : decode cd_Mo_scenario 111 = .ok (.aload_n 0, 1) := dq_at (q := (111, .aload_n 0, 1)) dm_Mo_scenario_60 1 rfl
theorem dc_Mo_scenario_112 : decode cd_Mo_scenario 112 = .ok (.getfield 95, 3) := dq_at (q := (112, .getfield 95, 3)) dm_Mo_scenario_60 2 rfl
theorem dc_Mo_scenario_115 : decode cd_Mo_scenario 115 = .ok (.aload_n 0, 1) := dq_at (q := (115, .aload_n 0, 1)) dm_Mo_scenario_60 3 rfl
theorem dc_Mo_scenario_116 : decode cd_Mo_scenario 116 = .ok (.aload_n 0, 1) := dq_at (q := (116, .aload_n 0, 1)) dm_Mo_scenario_60 4 rfl
theorem dc_Mo_scenario_117 : decode cd_Mo_scenario 117 = .ok (.getfield 45, 3) := dq_at (q := (117, .getfield 45, 3)) dm_Mo_scenario_60 5 rfl
theorem dc_Mo_scenario_120 : decode cd_Mo_scenario 120 = .ok (.invokevirtual 113, 3) := dq_at (q := (120, .invokevirtual 113, 3)) dm_Mo_scenario_60 6 rfl
theorem dc_Mo_scenario_123 : decode cd_Mo_scenario 123 = .ok (.iadd, 1) := dq_at (q := (123, .iadd, 1)) dm_Mo_scenario_60 7 rfl
theorem dc_Mo_scenario_124 : decode cd_Mo_scenario 124 = .ok (.iaload, 1) := dq_at (q := (124, .iaload, 1)) dm_Mo_scenario_60 8 rfl
theorem dc_Mo_scenario_125 : decode cd_Mo_scenario 125 = .ok (.iload_n 3, 1) := dq_at (q := (125, .iload_n 3, 1)) dm_Mo_scenario_60 9 rfl
theorem dc_Mo_scenario_126 : decode cd_Mo_scenario 126 = .ok (.if_icmp .ge 42, 3) := dq_at (q := (126, .if_icmp .ge 42, 3)) dm_Mo_scenario_60 10 rfl
theorem dc_Mo_scenario_129 : decode cd_Mo_scenario 129 = .ok (.iinc 3 (-1), 3) := dq_at (q := (129, .iinc 3 (-1), 3)) dm_Mo_scenario_60 11 rfl
theorem dc_Mo_scenario_132 : decode cd_Mo_scenario 132 = .ok (.aload_n 0, 1) := dq_at (q := (132, .aload_n 0, 1)) dm_Mo_scenario_60 12 rfl
theorem dc_Mo_scenario_133 : decode cd_Mo_scenario 133 = .ok (.getfield 26, 3) := dq_at (q := (133, .getfield 26, 3)) dm_Mo_scenario_60 13 rfl
theorem dc_Mo_scenario_136 : decode cd_Mo_scenario 136 = .ok (.aload_n 0, 1) := dq_at (q := (136, .aload_n 0, 1)) dm_Mo_scenario_60 14 rfl
theorem dc_Mo_scenario_137 : decode cd_Mo_scenario 137 = .ok (.getfield 158, 3) := dq_at (q := (137, .getfield 158, 3)) dm_Mo_scenario_60 15 rfl
theorem dc_Mo_scenario_140 : decode cd_Mo_scenario 140 = .ok (.bipush 10, 2) := dq_at (q := (140, .bipush 10, 2)) dm_Mo_scenario_60 16 rfl
theorem dc_Mo_scenario_142 : decode cd_Mo_scenario 142 = .ok (.iload 4, 2) := dq_at (q := (142, .iload 4, 2)) dm_Mo_scenario_60 17 rfl
theorem dc_Mo_scenario_144 : decode cd_Mo_scenario 144 = .ok (.imul, 1) := dq_at (q := (144, .imul, 1)) dm_Mo_scenario_60 18 rfl
theorem dc_Mo_scenario_145 : decode cd_Mo_scenario 145 = .ok (.iload 5, 2) := dq_at (q := (145, .iload 5, 2)) dm_Mo_scenario_60 19 rfl
theorem dc_Mo_scenario_147 : decode cd_Mo_scenario 147 = .ok (.iadd, 1) := dq_at (q := (147, .iadd, 1)) dm_Mo_scenario_60 20 rfl
theorem dc_Mo_scenario_148 : decode cd_Mo_scenario 148 = .ok (.iastore, 1) := dq_at (q := (148, .iastore, 1)) dm_Mo_scenario_60 21 rfl
theorem dc_Mo_scenario_149 : decode cd_Mo_scenario 149 = .ok (.aload_n 0, 1) := dq_at (q := (149, .aload_n 0, 1)) dm_Mo_scenario_60 22 rfl
theorem dc_Mo_scenario_150 : decode cd_Mo_scenario 150 = .ok (.dup, 1) := dq_at (q := (150, .dup, 1)) dm_Mo_scenario_60 23 rfl
theorem dc_Mo_scenario_151 : decode cd_Mo_scenario 151 = .ok (.getfield 158, 3) := dq_at (q := (151, .getfield 158, 3)) dm_Mo_scenario_60 24 rfl
theorem dc_Mo_scenario_154 : decode cd_Mo_scenario 154 = .ok (.iconst 1, 1) := dq_at (q := (154, .iconst 1, 1)) dm_Mo_scenario_60 25 rfl
theorem dc_Mo_scenario_155 : decode cd_Mo_scenario 155 = .ok (.iadd, 1) := dq_at (q := (155, .iadd, 1)) dm_Mo_scenario_60 26 rfl
theorem dc_Mo_scenario_156 : decode cd_Mo_scenario 156 = .ok (.putfield 158, 3) := dq_at (q := (156, .putfield 158, 3)) dm_Mo_scenario_60 27 rfl
theorem dc_Mo_scenario_159 : decode cd_Mo_scenario 159 = .ok (.iconst 0, 1) := dq_at (q := (159, .iconst 0, 1)) dm_Mo_scenario_60 28 rfl
theorem dc_Mo_scenario_160 : decode cd_Mo_scenario 160 = .ok (.istore 4, 2) := dq_at (q := (160, .istore 4, 2)) dm_Mo_scenario_60 29 rfl
theorem dc_Mo_scenario_162 : decode cd_Mo_scenario 162 = .ok (.iconst 0, 1) := dq_at (q := (162, .iconst 0, 1)) dm_Mo_scenario_60 30 rfl
theorem dc_Mo_scenario_163 : decode cd_Mo_scenario 163 = .ok (.istore 5, 2) := dq_at (q := (163, .istore 5, 2)) dm_Mo_scenario_60 31 rfl
theorem dc_Mo_scenario_165 : decode cd_Mo_scenario 165 = .ok (.goto (-74), 3) := dq_at (q := (165, .goto (-74), 3)) dm_Mo_scenario_60 32 rfl
theorem dc_Mo_scenario_168 : decode cd_Mo_scenario 168 = .ok (.aload_n 0, 1) := dq_at (q := (168, .aload_n 0, 1)) dm_Mo_scenario_60 33 rfl
theorem dc_Mo_scenario_169 : decode cd_Mo_scenario 169 = .ok (.getfield 45, 3) := dq_at (q := (169, .getfield 45, 3)) dm_Mo_scenario_60 34 rfl
theorem dc_Mo_scenario_172 : decode cd_Mo_scenario 172 = .ok (.iconst 0, 1) := dq_at (q := (172, .iconst 0, 1)) dm_Mo_scenario_60 35 rfl
theorem dc_Mo_scenario_173 : decode cd_Mo_scenario 173 = .ok (.iload 4, 2) := dq_at (q := (173, .iload 4, 2)) dm_Mo_scenario_60 36 rfl
theorem dc_Mo_scenario_175 : decode cd_Mo_scenario 175 = .ok (.iload 5, 2) := dq_at (q := (175, .iload 5, 2)) dm_Mo_scenario_60 37 rfl
theorem dc_Mo_scenario_177 : decode cd_Mo_scenario 177 = .ok (.invokestatic 91, 3) := dq_at (q := (177, .invokestatic 91, 3)) dm_Mo_scenario_60 38 rfl
theorem dc_Mo_scenario_180 : decode cd_Mo_scenario 180 = .ok (.iload 5, 2) := dq_at (q := (180, .iload 5, 2)) dm_Mo_scenario_60 39 rfl
theorem dc_Mo_scenario_182 : decode cd_Mo_scenario 182 = .ok (.iconst 1, 1) := dq_at (q := (182, .iconst 1, 1)) dm_Mo_scenario_60 40 rfl
theorem dc_Mo_scenario_183 : decode cd_Mo_scenario 183 = .ok (.iadd, 1) := dq_at (q := (183, .iadd, 1)) dm_Mo_scenario_60 41 rfl
theorem dc_Mo_scenario_184 : decode cd_Mo_scenario 184 = .ok (.aload_n 0, 1) := dq_at (q := (184, .aload_n 0, 1)) dm_Mo_scenario_60 42 rfl
theorem dc_Mo_scenario_185 : decode cd_Mo_scenario 185 = .ok (.getfield 7, 3) := dq_at (q := (185, .getfield 7, 3)) dm_Mo_scenario_60 43 rfl
theorem dc_Mo_scenario_188 : decode cd_Mo_scenario 188 = .ok (.if_icmp .ne 10, 3) := dq_at (q := (188, .if_icmp .ne 10, 3)) dm_Mo_scenario_60 44 rfl
theorem dc_Mo_scenario_191 : decode cd_Mo_scenario 191 = .ok (.iload 4, 2) := dq_at (q := (191, .iload 4, 2)) dm_Mo_scenario_60 45 rfl
theorem dc_Mo_scenario_193 : decode cd_Mo_scenario 193 = .ok (.iconst 1, 1) := dq_at (q := (193, .iconst 1, 1)) dm_Mo_scenario_60 46 rfl
theorem dc_Mo_scenario_194 : decode cd_Mo_scenario 194 = .ok (.iadd, 1) := dq_at (q := (194, .iadd, 1)) dm_Mo_scenario_60 47 rfl
theorem dc_Mo_scenario_195 : decode cd_Mo_scenario 195 = .ok (.goto 5, 3) := dq_at (q := (195, .goto 5, 3)) dm_Mo_scenario_60 48 rfl
theorem dc_Mo_scenario_198 : decode cd_Mo_scenario 198 = .ok (.iload 4, 2) := dq_at (q := (198, .iload 4, 2)) dm_Mo_scenario_60 49 rfl
theorem dc_Mo_scenario_200 : decode cd_Mo_scenario 200 = .ok (.istore 4, 2) := dq_at (q := (200, .istore 4, 2)) dm_Mo_scenario_60 50 rfl
theorem dc_Mo_scenario_202 : decode cd_Mo_scenario 202 = .ok (.iload 5, 2) := dq_at (q := (202, .iload 5, 2)) dm_Mo_scenario_60 51 rfl
theorem dc_Mo_scenario_204 : decode cd_Mo_scenario 204 = .ok (.iconst 1, 1) := dq_at (q := (204, .iconst 1, 1)) dm_Mo_scenario_60 52 rfl
theorem dc_Mo_scenario_205 : decode cd_Mo_scenario 205 = .ok (.iadd, 1) := dq_at (q := (205, .iadd, 1)) dm_Mo_scenario_60 53 rfl
theorem dc_Mo_scenario_206 : decode cd_Mo_scenario 206 = .ok (.aload_n 0, 1) := dq_at (q := (206, .aload_n 0, 1)) dm_Mo_scenario_60 54 rfl
theorem dc_Mo_scenario_207 : decode cd_Mo_scenario 207 = .ok (.getfield 7, 3) := dq_at (q := (207, .getfield 7, 3)) dm_Mo_scenario_60 55 rfl
theorem dc_Mo_scenario_210 : decode cd_Mo_scenario 210 = .ok (.if_icmp .ne 8, 3) := dq_at (q := (210, .if_icmp .ne 8, 3)) dm_Mo_scenario_60 56 rfl
theorem dc_Mo_scenario_213 : decode cd_Mo_scenario 213 = .ok (.iload 4, 2) := dq_at (q := (213, .iload 4, 2)) dm_Mo_scenario_60 57 rfl
theorem dc_Mo_scenario_215 : decode cd_Mo_scenario 215 = .ok (.goto 7, 3) := dq_at (q := (215, .goto 7, 3)) dm_Mo_scenario_60 58 rfl
theorem dc_Mo_scenario_218 : decode cd_Mo_scenario 218 = .ok (.iload 5, 2) := dq_at (q := (218, .iload 5, 2)) dm_Mo_scenario_60 59 rfl
def dl_Mo_scenario_120 : List (Nat × Instr × Nat) := [(220, .iconst 1, 1), (221, .iadd, 1), (222, .istore 5, 2), (224, .goto (-133), 3), (227, .aload_n 0, 1), (228, .getfield 158, 3), (231, .ireturn, 1)]
theorem dm_Mo_scenario_120 : dl_Mo_scenario_120.all (fun q => decide (decode cd_Mo_scenario q.1 = .ok (q.2.1, q.2.2))) = true := by decide +kernel
theorem dc_Mo_scenario_220 : decode cd_Mo_scenario 220 = .ok (.iconst 1, 1) := dq_at (q := (220, .iconst 1, 1)) dm_Mo_scenario_120 0 rfl
theorem dc_Mo_scenario_221 : decode cd_Mo_scenario 221 = .ok (.iadd, 1) := dq_at (q := (221, .iadd, 1)) dm_Mo_scenario_120 1 rfl
theorem dc_Mo_scenario_222 : decode cd_Mo_scenario 222 = .ok (.istore 5, 2) := dq_at (q := (222, .istore 5, 2)) dm_Mo_scenario_120 2 rfl
theorem dc_Mo_scenario_224 : decode cd_Mo_scenario 224 = .ok (.goto (-133), 3) := dq_at (q := (224, .goto (-133), 3)) dm_Mo_scenario_120 3 rfl
theorem dc_Mo_scenario_227 : decode cd_Mo_scenario 227 = .ok (.aload_n 0, 1) := dq_at (q := (227, .aload_n 0, 1)) dm_Mo_scenario_120 4 rfl
theorem dc_Mo_scenario_228 : decode cd_Mo_scenario 228 = .ok (.getfield 158, 3) := dq_at (q := (228, .getfield 158, 3)) dm_Mo_scenario_120 5 rfl
theorem dc_Mo_scenario_231 : decode cd_Mo_scenario 231 = .ok (.ireturn, 1) := dq_at (q := (231, .ireturn, 1)) dm_Mo_scenario_120 6 rfl
def dl_Mo_step_0 : List (Nat × Instr × Nat) := [(0, .aload_n 0, 1), (1, .aload_n 0, 1), (2, .getfield 78, 3), (5, .ifCond .ne 7, 3), (8, .iconst 1, 1), (9, .goto 20, 3), (12, .iload_n 1, 1), (13, .ifCond .lt 11, 3), (16, .iload_n 1, 1), (17, .aload_n 0, 1), (18, .getfield 158, 3), (21, .if_icmp .lt 7, 3), (24, .iconst 2, 1), (25, .goto 4, 3), (28, .iconst 0, 1), (29, .putfield 75, 3), (32, .aload_n 0, 1), (33, .getfield 75, 3), (36, .ifCond .le 7, 3), (39, .iconst 0, 1), (40, .goto 9, 3), (43, .aload_n 0, 1), (44, .getfield 26, 3), (47, .iload_n 1, 1), (48, .iaload, 1), (49, .ireturn, 1)]
theorem dm_Mo_step_0 : dl_Mo_step_0.all (fun q => decide (decode cd_Mo_step q.1 = .ok (q.2.1, q.2.2))) = true := by decide +kernel
theorem dc_Mo_step_0 : decode cd_Mo_step 0 = .ok (.aload_n 0, 1) := dq_at (q := (0, .aload_n 0, 1)) dm_Mo_step_0 0 rfl
theorem dc_Mo_step_1 : decode cd_Mo_step 1 = .ok (.aload_n 0, 1) := dq_at (q := (1, .aload_n 0, 1)) dm_Mo_step_0 1 rfl
theorem dc_Mo_step_2 : decode cd_Mo_step 2 = .ok (.getfield 78, 3) := dq_at (q := (2, .getfield 78, 3)) dm_Mo_step_0 2 rfl
theorem dc_Mo_step_5 : decode cd_Mo_step 5 = .ok (.ifCond .ne 7, 3) := dq_at (q := (5, .ifCond .ne 7, 3)) dm_Mo_step_0 3 rfl
theorem dc_Mo_step_8 : decode cd_Mo_step 8 = .ok (.iconst 1, 1) := dq_at (q := (8, .iconst 1, 1)) dm_Mo_step_0 4 rfl
theorem dc_Mo_step_9 : decode cd_Mo_step 9 = .ok (.goto 20, 3) := dq_at (q := (9, .goto 20, 3)) dm_Mo_step_0 5 rfl
theorem dc_Mo_step_12 : decode cd_Mo_step 12 = .ok (.iload_n 1, 1) := dq_at (q := (12, .iload_n 1, 1)) dm_Mo_step_0 6 rfl
theorem dc_Mo_step_13 : decode cd_Mo_step 13 = .ok (.ifCond .lt 11, 3) := dq_at (q := (13, .ifCond .lt 11, 3)) dm_Mo_step_0 7 rfl
theorem dc_Mo_step_16 : decode cd_Mo_step 16 = .ok (.iload_n 1, 1) := dq_at (q := (16, .iload_n 1, 1)) dm_Mo_step_0 8 rfl
theorem dc_Mo_step_17 : decode cd_Mo_step 17 = .ok (.aload_n 0, 1) := dq_at (q := (17, .aload_n 0, 1)) dm_Mo_step_0 9 rfl
theorem dc_Mo_step_18 : decode cd_Mo_step 18 = .ok (.getfield 158, 3) := dq_at (q := (18, .getfield 158, 3)) dm_Mo_step_0 10 rfl
theorem dc_Mo_step_21 : decode cd_Mo_step 21 = .ok (.if_icmp .lt 7, 3) := dq_at (q := (21, .if_icmp .lt 7, 3)) dm_Mo_step_0 11 rfl
theorem dc_Mo_step_24 : decode cd_Mo_step 24 = .ok (.iconst 2, 1) := dq_at (q := (24, .iconst 2, 1)) dm_Mo_step_0 12 rfl
theorem dc_Mo_step_25 : decode cd_Mo_step 25 = .ok (.goto 4, 3) := dq_at (q := (25, .goto 4, 3)) dm_Mo_step_0 13 rfl
theorem dc_Mo_step_28 : decode cd_Mo_step 28 = .ok (.iconst 0, 1) := dq_at (q := (28, .iconst 0, 1)) dm_Mo_step_0 14 rfl
theorem dc_Mo_step_29 : decode cd_Mo_step 29 = .ok (.putfield 75, 3) := dq_at (q := (29, .putfield 75, 3)) dm_Mo_step_0 15 rfl
theorem dc_Mo_step_32 : decode cd_Mo_step 32 = .ok (.aload_n 0, 1) := dq_at (q := (32, .aload_n 0, 1)) dm_Mo_step_0 16 rfl
theorem dc_Mo_step_33 : decode cd_Mo_step 33 = .ok (.getfield 75, 3) := dq_at (q := (33, .getfield 75, 3)) dm_Mo_step_0 17 rfl
theorem dc_Mo_step_36 : decode cd_Mo_step 36 = .ok (.ifCond .le 7, 3) := dq_at (q := (36, .ifCond .le 7, 3)) dm_Mo_step_0 18 rfl
theorem dc_Mo_step_39 : decode cd_Mo_step 39 = .ok (.iconst 0, 1) := dq_at (q := (39, .iconst 0, 1)) dm_Mo_step_0 19 rfl
theorem dc_Mo_step_40 : decode cd_Mo_step 40 = .ok (.goto 9, 3) := dq_at (q := (40, .goto 9, 3)) dm_Mo_step_0 20 rfl
theorem dc_Mo_step_43 : decode cd_Mo_step 43 = .ok (.aload_n 0, 1) := dq_at (q := (43, .aload_n 0, 1)) dm_Mo_step_0 21 rfl
theorem dc_Mo_step_44 : decode cd_Mo_step 44 = .ok (.getfield 26, 3) := dq_at (q := (44, .getfield 26, 3)) dm_Mo_step_0 22 rfl
theorem dc_Mo_step_47 : decode cd_Mo_step 47 = .ok (.iload_n 1, 1) := dq_at (q := (47, .iload_n 1, 1)) dm_Mo_step_0 23 rfl
theorem dc_Mo_step_48 : decode cd_Mo_step 48 = .ok (.iaload, 1) := dq_at (q := (48, .iaload, 1)) dm_Mo_step_0 24 rfl
theorem dc_Mo_step_49 : decode cd_Mo_step 49 = .ok (.ireturn, 1) := dq_at (q := (49, .ireturn, 1)) dm_Mo_step_0 25 rfl
def dl_Mo_ways_0 : List (Nat × Instr × Nat) := [(0, .aload_n 0, 1), (1, .iload_n 1, 1), (2, .invokestatic 87, 3), (5, .ifCond .ne 10, 3), (8, .iload_n 2, 1), (9, .invokestatic 87, 3), (12, .ifCond .eq 7, 3), (15, .iconst 1, 1), (16, .goto 16, 3), (19, .aload_n 0, 1), (20, .getfield 7, 3), (23, .iconst 4, 1), (24, .if_icmp .le 7, 3), (27, .iconst 2, 1), (28, .goto 4, 3), (31, .iconst 0, 1), (32, .putfield 75, 3), (35, .aload_n 0, 1), (36, .getfield 75, 3), (39, .ifCond .le 5, 3), (42, .lconst 0, 1), (43, .lreturn, 1), (44, .aload_n 0, 1), (45, .invokevirtual 117, 3), (48, .aload_n 0, 1), (49, .aload_n 0, 1), (50, .getfield 13, 3), (53, .bipush 6, 2), (55, .iload_n 1, 1), (56, .imul, 1), (57, .aload_n 0, 1), (58, .getfield 13, 3), (61, .bipush 6, 2), (63, .iload_n 2, 1), (64, .imul, 1), (65, .invokevirtual 120, 3), (68, .aload_n 0, 1), (69, .getfield 41, 3), (72, .aload_n 0, 1), (73, .getfield 95, 3), (76, .aload_n 0, 1), (77, .aload_n 0, 1), (78, .getfield 45, 3), (81, .invokevirtual 113, 3), (84, .iadd, 1), (85, .laload, 1), (86, .lreturn, 1)]
theorem dm_Mo_ways_0 : dl_Mo_ways_0.all (fun q => decide (decode cd_Mo_ways q.1 = .ok (q.2.1, q.2.2))) = true := by decide +kernel
theorem dc_Mo_ways_0 : decode cd_Mo_ways 0 = .ok (.aload_n 0, 1) := dq_at (q := (0, .aload_n 0, 1)) dm_Mo_ways_0 0 rfl
theorem dc_Mo_ways_1 : decode cd_Mo_ways 1 = .ok (.iload_n 1, 1) := dq_at (q := (1, .iload_n 1, 1)) dm_Mo_ways_0 1 rfl
theorem dc_Mo_ways_2 : decode cd_Mo_ways 2 = .ok (.invokestatic 87, 3) := dq_at (q := (2, .invokestatic 87, 3)) dm_Mo_ways_0 2 rfl
theorem dc_Mo_ways_5 : decode cd_Mo_ways 5 = .ok (.ifCond .ne 10, 3) := dq_at (q := (5, .ifCond .ne 10, 3)) dm_Mo_ways_0 3 rfl
theorem dc_Mo_ways_8 : decode cd_Mo_ways 8 = .ok (.iload_n 2, 1) := dq_at (q := (8, .iload_n 2, 1)) dm_Mo_ways_0 4 rfl
theorem dc_Mo_ways_9 : decode cd_Mo_ways 9 = .ok (.invokestatic 87, 3) := dq_at (q := (9, .invokestatic 87, 3)) dm_Mo_ways_0 5 rfl
theorem dc_Mo_ways_12 : decode cd_Mo_ways 12 = .ok (.ifCond .eq 7, 3) := dq_at (q := (12, .ifCond .eq 7, 3)) dm_Mo_ways_0 6 rfl
theorem dc_Mo_ways_15 : decode cd_Mo_ways 15 = .ok (.iconst 1, 1) := dq_at (q := (15, .iconst 1, 1)) dm_Mo_ways_0 7 rfl
theorem dc_Mo_ways_16 : decode cd_Mo_ways 16 = .ok (.goto 16, 3) := dq_at (q := (16, .goto 16, 3)) dm_Mo_ways_0 8 rfl
theorem dc_Mo_ways_19 : decode cd_Mo_ways 19 = .ok (.aload_n 0, 1) := dq_at (q := (19, .aload_n 0, 1)) dm_Mo_ways_0 9 rfl
theorem dc_Mo_ways_20 : decode cd_Mo_ways 20 = .ok (.getfield 7, 3) := dq_at (q := (20, .getfield 7, 3)) dm_Mo_ways_0 10 rfl
theorem dc_Mo_ways_23 : decode cd_Mo_ways 23 = .ok (.iconst 4, 1) := dq_at (q := (23, .iconst 4, 1)) dm_Mo_ways_0 11 rfl
theorem dc_Mo_ways_24 : decode cd_Mo_ways 24 = .ok (.if_icmp .le 7, 3) := dq_at (q := (24, .if_icmp .le 7, 3)) dm_Mo_ways_0 12 rfl
theorem dc_Mo_ways_27 : decode cd_Mo_ways 27 = .ok (.iconst 2, 1) := dq_at (q := (27, .iconst 2, 1)) dm_Mo_ways_0 13 rfl
theorem dc_Mo_ways_28 : decode cd_Mo_ways 28 = .ok (.goto 4, 3) := dq_at (q := (28, .goto 4, 3)) dm_Mo_ways_0 14 rfl
theorem dc_Mo_ways_31 : decode cd_Mo_ways 31 = .ok (.iconst 0, 1) := dq_at (q := (31, .iconst 0, 1)) dm_Mo_ways_0 15 rfl
theorem dc_Mo_ways_32 : decode cd_Mo_ways 32 = .ok (.putfield 75, 3) := dq_at (q := (32, .putfield 75, 3)) dm_Mo_ways_0 16 rfl
theorem dc_Mo_ways_35 : decode cd_Mo_ways 35 = .ok (.aload_n 0, 1) := dq_at (q := (35, .aload_n 0, 1)) dm_Mo_ways_0 17 rfl
theorem dc_Mo_ways_36 : decode cd_Mo_ways 36 = .ok (.getfield 75, 3) := dq_at (q := (36, .getfield 75, 3)) dm_Mo_ways_0 18 rfl
theorem dc_Mo_ways_39 : decode cd_Mo_ways 39 = .ok (.ifCond .le 5, 3) := dq_at (q := (39, .ifCond .le 5, 3)) dm_Mo_ways_0 19 rfl
theorem dc_Mo_ways_42 : decode cd_Mo_ways 42 = .ok (.lconst 0, 1) := dq_at (q := (42, .lconst 0, 1)) dm_Mo_ways_0 20 rfl
theorem dc_Mo_ways_43 : decode cd_Mo_ways 43 = .ok (.lreturn, 1) := dq_at (q := (43, .lreturn, 1)) dm_Mo_ways_0 21 rfl
theorem dc_Mo_ways_44 : decode cd_Mo_ways 44 = .ok (.aload_n 0, 1) := dq_at (q := (44, .aload_n 0, 1)) dm_Mo_ways_0 22 rfl
theorem dc_Mo_ways_45 : decode cd_Mo_ways 45 = .ok (.invokevirtual 117, 3) := dq_at (q := (45, .invokevirtual 117, 3)) dm_Mo_ways_0 23 rfl
theorem dc_Mo_ways_48 : decode cd_Mo_ways 48 = .ok (.aload_n 0, 1) := dq_at (q := (48, .aload_n 0, 1)) dm_Mo_ways_0 24 rfl
theorem dc_Mo_ways_49 : decode cd_Mo_ways 49 = .ok (.aload_n 0, 1) := dq_at (q := (49, .aload_n 0, 1)) dm_Mo_ways_0 25 rfl
theorem dc_Mo_ways_50 : decode cd_Mo_ways 50 = .ok (.getfield 13, 3) := dq_at (q := (50, .getfield 13, 3)) dm_Mo_ways_0 26 rfl
theorem dc_Mo_ways_53 : decode cd_Mo_ways 53 = .ok (.bipush 6, 2) := dq_at (q := (53, .bipush 6, 2)) dm_Mo_ways_0 27 rfl
theorem dc_Mo_ways_55 : decode cd_Mo_ways 55 = .ok (.iload_n 1, 1) := dq_at (q := (55, .iload_n 1, 1)) dm_Mo_ways_0 28 rfl
theorem dc_Mo_ways_56 : decode cd_Mo_ways 56 = .ok (.imul, 1) := dq_at (q := (56, .imul, 1)) dm_Mo_ways_0 29 rfl
theorem dc_Mo_ways_57 : decode cd_Mo_ways 57 = .ok (.aload_n 0, 1) := dq_at (q := (57, .aload_n 0, 1)) dm_Mo_ways_0 30 rfl
theorem dc_Mo_ways_58 : decode cd_Mo_ways 58 = .ok (.getfield 13, 3) := dq_at (q := (58, .getfield 13, 3)) dm_Mo_ways_0 31 rfl
theorem dc_Mo_ways_61 : decode cd_Mo_ways 61 = .ok (.bipush 6, 2) := dq_at (q := (61, .bipush 6, 2)) dm_Mo_ways_0 32 rfl
theorem dc_Mo_ways_63 : decode cd_Mo_ways 63 = .ok (.iload_n 2, 1) := dq_at (q := (63, .iload_n 2, 1)) dm_Mo_ways_0 33 rfl
theorem dc_Mo_ways_64 : decode cd_Mo_ways 64 = .ok (.imul, 1) := dq_at (q := (64, .imul, 1)) dm_Mo_ways_0 34 rfl
theorem dc_Mo_ways_65 : decode cd_Mo_ways 65 = .ok (.invokevirtual 120, 3) := dq_at (q := (65, .invokevirtual 120, 3)) dm_Mo_ways_0 35 rfl
theorem dc_Mo_ways_68 : decode cd_Mo_ways 68 = .ok (.aload_n 0, 1) := dq_at (q := (68, .aload_n 0, 1)) dm_Mo_ways_0 36 rfl
theorem dc_Mo_ways_69 : decode cd_Mo_ways 69 = .ok (.getfield 41, 3) := dq_at (q := (69, .getfield 41, 3)) dm_Mo_ways_0 37 rfl
theorem dc_Mo_ways_72 : decode cd_Mo_ways 72 = .ok (.aload_n 0, 1) := dq_at (q := (72, .aload_n 0, 1)) dm_Mo_ways_0 38 rfl
theorem dc_Mo_ways_73 : decode cd_Mo_ways 73 = .ok (.getfield 95, 3) := dq_at (q := (73, .getfield 95, 3)) dm_Mo_ways_0 39 rfl
theorem dc_Mo_ways_76 : decode cd_Mo_ways 76 = .ok (.aload_n 0, 1) := dq_at (q := (76, .aload_n 0, 1)) dm_Mo_ways_0 40 rfl
theorem dc_Mo_ways_77 : decode cd_Mo_ways 77 = .ok (.aload_n 0, 1) := dq_at (q := (77, .aload_n 0, 1)) dm_Mo_ways_0 41 rfl
theorem dc_Mo_ways_78 : decode cd_Mo_ways 78 = .ok (.getfield 45, 3) := dq_at (q := (78, .getfield 45, 3)) dm_Mo_ways_0 42 rfl
theorem dc_Mo_ways_81 : decode cd_Mo_ways 81 = .ok (.invokevirtual 113, 3) := dq_at (q := (81, .invokevirtual 113, 3)) dm_Mo_ways_0 43 rfl
theorem dc_Mo_ways_84 : decode cd_Mo_ways 84 = .ok (.iadd, 1) := dq_at (q := (84, .iadd, 1)) dm_Mo_ways_0 44 rfl
theorem dc_Mo_ways_85 : decode cd_Mo_ways 85 = .ok (.laload, 1) := dq_at (q := (85, .laload, 1)) dm_Mo_ways_0 45 rfl
theorem dc_Mo_ways_86 : decode cd_Mo_ways 86 = .ok (.lreturn, 1) := dq_at (q := (86, .lreturn, 1)) dm_Mo_ways_0 46 rfl
def dl_Mo_circle_0 : List (Nat × Instr × Nat) := [(0, .aload_n 0, 1), (1, .iload_n 1, 1), (2, .invokestatic 87, 3), (5, .ifCond .eq 7, 3), (8, .iconst 1, 1), (9, .goto 16, 3), (12, .aload_n 0, 1), (13, .getfield 7, 3), (16, .iconst 4, 1), (17, .if_icmp .le 7, 3), (20, .iconst 2, 1), (21, .goto 4, 3), (24, .iconst 0, 1), (25, .putfield 75, 3), (28, .aload_n 0, 1), (29, .getfield 75, 3), (32, .ifCond .le 5, 3), (35, .iconst 0, 1), (36, .ireturn, 1), (37, .aload_n 0, 1), (38, .invokevirtual 117, 3), (41, .iconst 0, 1), (42, .istore_n 3, 1), (43, .iconst 0, 1), (44, .istore 4, 2), (46, .iload 4, 2), (48, .aload_n 0, 1), (49, .invokevirtual 98, 3), (52, .if_icmp .ge 33, 3), (55, .aload_n 0, 1), (56, .getfield 34, 3), (59, .aload_n 0, 1), (60, .getfield 95, 3), (63, .iload 4, 2), (65, .iadd, 1), (66, .iaload, 1), (67, .iload_n 2, 1), (68, .if_icmp .ne 9, 3), (71, .iload_n 3, 1), (72, .iconst 1, 1), (73, .iadd, 1), (74, .goto 4, 3), (77, .iload_n 3, 1), (78, .istore_n 3, 1), (79, .iinc 4 1, 3), (82, .goto (-36), 3), (85, .iload_n 3, 1), (86, .ireturn, 1)]
theorem dm_Mo_circle_0 : dl_Mo_circle_0.all (fun q => decide (decode cd_Mo_circle q.1 = .ok (q.2.1, q.2.2))) = true := by decide +kernel
theorem dc_Mo_circle_0 : decode cd_Mo_circle 0 = .ok (.aload_n 0, 1) := dq_at (q := (0, .aload_n 0, 1)) dm_Mo_circle_0 0 rfl
theorem dc_Mo_circle_1 : decode cd_Mo_circle 1 = .ok (.iload_n 1, 1) := dq_at (q := (1, .iload_n 1, 1)) dm_Mo_circle_0 1 rfl
theorem dc_Mo_circle_2 : decode cd_Mo_circle 2 = .ok (.invokestatic 87, 3) := dq_at (q := (2, .invokestatic 87, 3)) dm_Mo_circle_0 2 rfl
theorem dc_Mo_circle_5 : decode cd_Mo_circle 5 = .ok (.ifCond .eq 7, 3) := dq_at (q := (5, .ifCond .eq 7, 3)) dm_Mo_circle_0 3 rfl
theorem dc_Mo_circle_8 : decode cd_Mo_circle 8 = .ok (.iconst 1, 1) := dq_at (q := (8, .iconst 1, 1)) dm_Mo_circle_0 4 rfl
theorem dc_Mo_circle_9 : decode cd_Mo_circle 9 = .ok (.goto 16, 3) := dq_at (q := (9, .goto 16, 3)) dm_Mo_circle_0 5 rfl
theorem dc_Mo_circle_12 : decode cd_Mo_circle 12 = .ok (.aload_n 0, 1) := dq_at (q := (12, .aload_n 0, 1)) dm_Mo_circle_0 6 rfl
theorem dc_Mo_circle_13 : decode cd_Mo_circle 13 = .ok (.getfield 7, 3) := dq_at (q := (13, .getfield 7, 3)) dm_Mo_circle_0 7 rfl
theorem dc_Mo_circle_16 : decode cd_Mo_circle 16 = .ok (.iconst 4, 1) := dq_at (q := (16, .iconst 4, 1)) dm_Mo_circle_0 8 rfl
theorem dc_Mo_circle_17 : decode cd_Mo_circle 17 = .ok (.if_icmp .le 7, 3) := dq_at (q := (17, .if_icmp .le 7, 3)) dm_Mo_circle_0 9 rfl
theorem dc_Mo_circle_20 : decode cd_Mo_circle 20 = .ok (.iconst 2, 1) := dq_at (q := (20, .iconst 2, 1)) dm_Mo_circle_0 10 rfl
theorem dc_Mo_circle_21 : decode cd_Mo_circle 21 = .ok (.goto 4, 3) := dq_at (q := (21, .goto 4, 3)) dm_Mo_circle_0 11 rfl
theorem dc_Mo_circle_24 : decode cd_Mo_circle 24 = .ok (.iconst 0, 1) := dq_at (q := (24, .iconst 0, 1)) dm_Mo_circle_0 12 rfl
theorem dc_Mo_circle_25 : decode cd_Mo_circle 25 = .ok (.putfield 75, 3) := dq_at (q := (25, .putfield 75, 3)) dm_Mo_circle_0 13 rfl
theorem dc_Mo_circle_28 : decode cd_Mo_circle 28 = .ok (.aload_n 0, 1) := dq_at (q := (28, .aload_n 0, 1)) dm_Mo_circle_0 14 rfl
theorem dc_Mo_circle_29 : decode cd_Mo_circle 29 = .ok (.getfield 75, 3) := dq_at (q := (29, .getfield 75, 3)) dm_Mo_circle_0 15 rfl
theorem dc_Mo_circle_32 : decode cd_Mo_circle 32 = .ok (.ifCond .le 5, 3) := dq_at (q := (32, .ifCond .le 5, 3)) dm_Mo_circle_0 16 rfl
theorem dc_Mo_circle_35 : decode cd_Mo_circle 35 = .ok (.iconst 0, 1) := dq_at (q := (35, .iconst 0, 1)) dm_Mo_circle_0 17 rfl
theorem dc_Mo_circle_36 : decode cd_Mo_circle 36 = .ok (.ireturn, 1) := dq_at (q := (36, .ireturn, 1)) dm_Mo_circle_0 18 rfl
theorem dc_Mo_circle_37 : decode cd_Mo_circle 37 = .ok (.aload_n 0, 1) := dq_at (q := (37, .aload_n 0, 1)) dm_Mo_circle_0 19 rfl
theorem dc_Mo_circle_38 : decode cd_Mo_circle 38 = .ok (.invokevirtual 117, 3) := dq_at (q := (38, .invokevirtual 117, 3)) dm_Mo_circle_0 20 rfl
theorem dc_Mo_circle_41 : decode cd_Mo_circle 41 = .ok (.iconst 0, 1) := dq_at (q := (41, .iconst 0, 1)) dm_Mo_circle_0 21 rfl
theorem dc_Mo_circle_42 : decode cd_Mo_circle 42 = .ok (.istore_n 3, 1) := dq_at (q := (42, .istore_n 3, 1)) dm_Mo_circle_0 22 rfl
theorem dc_Mo_circle_43 : decode cd_Mo_circle 43 = .ok (.iconst 0, 1) := dq_at (q := (43, .iconst 0, 1)) dm_Mo_circle_0 23 rfl
theorem dc_Mo_circle_44 : decode cd_Mo_circle 44 = .ok (.istore 4, 2) := dq_at (q := (44, .istore 4, 2)) dm_Mo_circle_0 24 rfl
theorem dc_Mo_circle_46 : decode cd_Mo_circle 46 = .ok (.iload 4, 2) := dq_at (q := (46, .iload 4, 2)) dm_Mo_circle_0 25 rfl
theorem dc_Mo_circle_48 : decode cd_Mo_circle 48 = .ok (.aload_n 0, 1) := dq_at (q := (48, .aload_n 0, 1)) dm_Mo_circle_0 26 rfl
theorem dc_Mo_circle_49 : decode cd_Mo_circle 49 = .ok (.invokevirtual 98, 3) := dq_at (q := (49, .invokevirtual 98, 3)) dm_Mo_circle_0 27 rfl
theorem dc_Mo_circle_52 : decode cd_Mo_circle 52 = .ok (.if_icmp .ge 33, 3) := dq_at (q := (52, .if_icmp .ge 33, 3)) dm_Mo_circle_0 28 rfl
theorem dc_Mo_circle_55 : decode cd_Mo_circle 55 = .ok (.aload_n 0, 1) := dq_at (q := (55, .aload_n 0, 1)) dm_Mo_circle_0 29 rfl
theorem dc_Mo_circle_56 : decode cd_Mo_circle 56 = .ok (.getfield 34, 3) := dq_at (q := (56, .getfield 34, 3)) dm_Mo_circle_0 30 rfl
theorem dc_Mo_circle_59 : decode cd_Mo_circle 59 = .ok (.aload_n 0, 1) := dq_at (q := (59, .aload_n 0, 1)) dm_Mo_circle_0 31 rfl
theorem dc_Mo_circle_60 : decode cd_Mo_circle 60 = .ok (.getfield 95, 3) := dq_at (q := (60, .getfield 95, 3)) dm_Mo_circle_0 32 rfl
theorem dc_Mo_circle_63 : decode cd_Mo_circle 63 = .ok (.iload 4, 2) := dq_at (q := (63, .iload 4, 2)) dm_Mo_circle_0 33 rfl
theorem dc_Mo_circle_65 : decode cd_Mo_circle 65 = .ok (.iadd, 1) := dq_at (q := (65, .iadd, 1)) dm_Mo_circle_0 34 rfl
theorem dc_Mo_circle_66 : decode cd_Mo_circle 66 = .ok (.iaload, 1) := dq_at (q := (66, .iaload, 1)) dm_Mo_circle_0 35 rfl
theorem dc_Mo_circle_67 : decode cd_Mo_circle 67 = .ok (.iload_n 2, 1) := dq_at (q := (67, .iload_n 2, 1)) dm_Mo_circle_0 36 rfl
theorem dc_Mo_circle_68 : decode cd_Mo_circle 68 = .ok (.if_icmp .ne 9, 3) := dq_at (q := (68, .if_icmp .ne 9, 3)) dm_Mo_circle_0 37 rfl
theorem dc_Mo_circle_71 : decode cd_Mo_circle 71 = .ok (.iload_n 3, 1) := dq_at (q := (71, .iload_n 3, 1)) dm_Mo_circle_0 38 rfl
theorem dc_Mo_circle_72 : decode cd_Mo_circle 72 = .ok (.iconst 1, 1) := dq_at (q := (72, .iconst 1, 1)) dm_Mo_circle_0 39 rfl
theorem dc_Mo_circle_73 : decode cd_Mo_circle 73 = .ok (.iadd, 1) := dq_at (q := (73, .iadd, 1)) dm_Mo_circle_0 40 rfl
theorem dc_Mo_circle_74 : decode cd_Mo_circle 74 = .ok (.goto 4, 3) := dq_at (q := (74, .goto 4, 3)) dm_Mo_circle_0 41 rfl
theorem dc_Mo_circle_77 : decode cd_Mo_circle 77 = .ok (.iload_n 3, 1) := dq_at (q := (77, .iload_n 3, 1)) dm_Mo_circle_0 42 rfl
theorem dc_Mo_circle_78 : decode cd_Mo_circle 78 = .ok (.istore_n 3, 1) := dq_at (q := (78, .istore_n 3, 1)) dm_Mo_circle_0 43 rfl
theorem dc_Mo_circle_79 : decode cd_Mo_circle 79 = .ok (.iinc 4 1, 3) := dq_at (q := (79, .iinc 4 1, 3)) dm_Mo_circle_0 44 rfl
theorem dc_Mo_circle_82 : decode cd_Mo_circle 82 = .ok (.goto (-36), 3) := dq_at (q := (82, .goto (-36), 3)) dm_Mo_circle_0 45 rfl
theorem dc_Mo_circle_85 : decode cd_Mo_circle 85 = .ok (.iload_n 3, 1) := dq_at (q := (85, .iload_n 3, 1)) dm_Mo_circle_0 46 rfl
theorem dc_Mo_circle_86 : decode cd_Mo_circle 86 = .ok (.ireturn, 1) := dq_at (q := (86, .ireturn, 1)) dm_Mo_circle_0 47 rfl
def dl_Mo_isLess_0 : List (Nat × Instr × Nat) := [(0, .iconst 0, 1), (1, .istore 4, 2), (3, .iload 4, 2), (5, .iload_n 3, 1), (6, .if_icmp .ge 41, 3), (9, .aload_n 0, 1), (10, .iload 4, 2), (12, .iaload, 1), (13, .aload_n 1, 1), (14, .iload_n 2, 1), (15, .iload 4, 2), (17, .iadd, 1), (18, .iaload, 1), (19, .if_icmp .eq 22, 3), (22, .aload_n 0, 1), (23, .iload 4, 2), (25, .iaload, 1), (26, .aload_n 1, 1), (27, .iload_n 2, 1), (28, .iload 4, 2), (30, .iadd, 1), (31, .iaload, 1), (32, .if_icmp .ge 7, 3), (35, .iconst 1, 1), (36, .goto 4, 3), (39, .iconst 0, 1), (40, .ireturn, 1), (41, .iinc 4 1, 3), (44, .goto (-41), 3), (47, .iconst 0, 1), (48, .ireturn, 1)]
theorem dm_Mo_isLess_0 : dl_Mo_isLess_0.all (fun q => decide (decode cd_Mo_isLess q.1 = .ok (q.2.1, q.2.2))) = true := by decide +kernel
theorem dc_Mo_isLess_0 : decode cd_Mo_isLess 0 = .ok (.iconst 0, 1) := dq_at (q := (0, .iconst 0, 1)) dm_Mo_isLess_0 0 rfl
theorem dc_Mo_isLess_1 : decode cd_Mo_isLess 1 = .ok (.istore 4, 2) := dq_at (q := (1, .istore 4, 2)) dm_Mo_isLess_0 1 rfl
theorem dc_Mo_isLess_3 : decode cd_Mo_isLess 3 = .ok (.iload 4, 2) := dq_at (q := (3, .iload 4, 2)) dm_Mo_isLess_0 2 rfl
theorem dc_Mo_isLess_5 : decode cd_Mo_isLess 5 = .ok (.iload_n 3, 1) := dq_at (q := (5, .iload_n 3, 1)) dm_Mo_isLess_0 3 rfl
theorem dc_Mo_isLess_6 : decode cd_Mo_isLess 6 = .ok (.if_icmp .ge 41, 3) := dq_at (q := (6, .if_icmp .ge 41, 3)) dm_Mo_isLess_0 4 rfl
theorem dc_Mo_isLess_9 : decode cd_Mo_isLess 9 = .ok (.aload_n 0, 1) := dq_at (q := (9, .aload_n 0, 1)) dm_Mo_isLess_0 5 rfl
theorem dc_Mo_isLess_10 : decode cd_Mo_isLess 10 = .ok (.iload 4, 2) := dq_at (q := (10, .iload 4, 2)) dm_Mo_isLess_0 6 rfl
theorem dc_Mo_isLess_12 : decode cd_Mo_isLess 12 = .ok (.iaload, 1) := dq_at (q := (12, .iaload, 1)) dm_Mo_isLess_0 7 rfl
theorem dc_Mo_isLess_13 : decode cd_Mo_isLess 13 = .ok (.aload_n 1, 1) := dq_at (q := (13, .aload_n 1, 1)) dm_Mo_isLess_0 8 rfl
theorem dc_Mo_isLess_14 : decode cd_Mo_isLess 14 = .ok (.iload_n 2, 1) := dq_at (q := (14, .iload_n 2, 1)) dm_Mo_isLess_0 9 rfl
theorem dc_Mo_isLess_15 : decode cd_Mo_isLess 15 = .ok (.iload 4, 2) := dq_at (q := (15, .iload 4, 2)) dm_Mo_isLess_0 10 rfl
theorem dc_Mo_isLess_17 : decode cd_Mo_isLess 17 = .ok (.iadd, 1) := dq_at (q := (17, .iadd, 1)) dm_Mo_isLess_0 11 rfl
theorem dc_Mo_isLess_18 : decode cd_Mo_isLess 18 = .ok (.iaload, 1) := dq_at (q := (18, .iaload, 1)) dm_Mo_isLess_0 12 rfl
theorem dc_Mo_isLess_19 : decode cd_Mo_isLess 19 = .ok (.if_icmp .eq 22, 3) := dq_at (q := (19, .if_icmp .eq 22, 3)) dm_Mo_isLess_0 13 rfl
theorem dc_Mo_isLess_22 : decode cd_Mo_isLess 22 = .ok (.aload_n 0, 1) := dq_at (q := (22, .aload_n 0, 1)) dm_Mo_isLess_0 14 rfl
theorem dc_Mo_isLess_23 : decode cd_Mo_isLess 23 = .ok (.iload 4, 2) := dq_at (q := (23, .iload 4, 2)) dm_Mo_isLess_0 15 rfl
theorem dc_Mo_isLess_25 : decode cd_Mo_isLess 25 = .ok (.iaload, 1) := dq_at (q := (25, .iaload, 1)) dm_Mo_isLess_0 16 rfl
theorem dc_Mo_isLess_26 : decode cd_Mo_isLess 26 = .ok (.aload_n 1, 1) := dq_at (q := (26, .aload_n 1, 1)) dm_Mo_isLess_0 17 rfl
theorem dc_Mo_isLess_27 : decode cd_Mo_isLess 27 = .ok (.iload_n 2, 1) := dq_at (q := (27, .iload_n 2, 1)) dm_Mo_isLess_0 18 rfl
theorem dc_Mo_isLess_28 : decode cd_Mo_isLess 28 = .ok (.iload 4, 2) := dq_at (q := (28, .iload 4, 2)) dm_Mo_isLess_0 19 rfl
theorem dc_Mo_isLess_30 : decode cd_Mo_isLess 30 = .ok (.iadd, 1) := dq_at (q := (30, .iadd, 1)) dm_Mo_isLess_0 20 rfl
theorem dc_Mo_isLess_31 : decode cd_Mo_isLess 31 = .ok (.iaload, 1) := dq_at (q := (31, .iaload, 1)) dm_Mo_isLess_0 21 rfl
theorem dc_Mo_isLess_32 : decode cd_Mo_isLess 32 = .ok (.if_icmp .ge 7, 3) := dq_at (q := (32, .if_icmp .ge 7, 3)) dm_Mo_isLess_0 22 rfl
theorem dc_Mo_isLess_35 : decode cd_Mo_isLess 35 = .ok (.iconst 1, 1) := dq_at (q := (35, .iconst 1, 1)) dm_Mo_isLess_0 23 rfl
theorem dc_Mo_isLess_36 : decode cd_Mo_isLess 36 = .ok (.goto 4, 3) := dq_at (q := (36, .goto 4, 3)) dm_Mo_isLess_0 24 rfl
theorem dc_Mo_isLess_39 : decode cd_Mo_isLess 39 = .ok (.iconst 0, 1) := dq_at (q := (39, .iconst 0, 1)) dm_Mo_isLess_0 25 rfl
theorem dc_Mo_isLess_40 : decode cd_Mo_isLess 40 = .ok (.ireturn, 1) := dq_at (q := (40, .ireturn, 1)) dm_Mo_isLess_0 26 rfl
theorem dc_Mo_isLess_41 : decode cd_Mo_isLess 41 = .ok (.iinc 4 1, 3) := dq_at (q := (41, .iinc 4 1, 3)) dm_Mo_isLess_0 27 rfl
theorem dc_Mo_isLess_44 : decode cd_Mo_isLess 44 = .ok (.goto (-41), 3) := dq_at (q := (44, .goto (-41), 3)) dm_Mo_isLess_0 28 rfl
theorem dc_Mo_isLess_47 : decode cd_Mo_isLess 47 = .ok (.iconst 0, 1) := dq_at (q := (47, .iconst 0, 1)) dm_Mo_isLess_0 29 rfl
theorem dc_Mo_isLess_48 : decode cd_Mo_isLess 48 = .ok (.ireturn, 1) := dq_at (q := (48, .ireturn, 1)) dm_Mo_isLess_0 30 rfl
def dl_Mo_median_0 : List (Nat × Instr × Nat) := [(0, .aload_n 0, 1), (1, .iload_n 1, 1), (2, .invokestatic 87, 3), (5, .ifCond .ne 17, 3), (8, .iload_n 2, 1), (9, .invokestatic 87, 3), (12, .ifCond .ne 10, 3), (15, .iload_n 3, 1), (16, .invokestatic 87, 3), (19, .ifCond .eq 7, 3), (22, .iconst 1, 1), (23, .goto 16, 3), (26, .aload_n 0, 1), (27, .getfield 7, 3), (30, .iconst 4, 1), (31, .if_icmp .le 7, 3), (34, .iconst 2, 1), (35, .goto 4, 3), (38, .iconst 0, 1), (39, .putfield 75, 3), (42, .aload_n 0, 1), (43, .getfield 75, 3), (46, .ifCond .le 5, 3), (49, .iconst 0, 1), (50, .ireturn, 1), (51, .aload_n 0, 1), (52, .invokevirtual 117, 3), (55, .bipush 99, 2), (57, .istore 4, 2), (59, .iconst 0, 1), (60, .istore 5, 2), (62, .iload 5, 2), (64, .aload_n 0, 1), (65, .invokevirtual 98, 3), (68, .if_icmp .ge 143, 3), (71, .aload_n 0, 1), (72, .iload 5, 2), (74, .aload_n 0, 1), (75, .getfield 48, 3), (78, .invokevirtual 109, 3), (81, .aload_n 0, 1), (82, .aload_n 0, 1), (83, .getfield 48, 3), (86, .iconst 0, 1), (87, .aload_n 0, 1), (88, .getfield 13, 3), (91, .bipush 6, 2), (93, .iload_n 1, 1), (94, .imul, 1), (95, .invokevirtual 124, 3), (98, .aload_n 0, 1), (99, .aload_n 0, 1), (100, .getfield 48, 3), (103, .iconst 0, 1), (104, .aload_n 0, 1), (105, .getfield 13, 3), (108, .bipush 6, 2), (110, .iload_n 2, 1), (111, .imul, 1), (112, .invokevirtual 124, 3)]
theorem dm_Mo_median_0 : dl_Mo_median_0.all (fun q => decide (decode cd_Mo_median q.1 = .ok (q.2.1, q.2.2))) = true := by decide +kernel
theorem dc_Mo_median_0 : decode cd_Mo_median 0 = .ok (.aload_n 0, 1) := dq_at (q := (0, .aload_n 0, 1)) dm_Mo_median_0 0 rfl
theorem dc_Mo_median_1 : decode cd_Mo_median 1 = .ok (.iload_n 1, 1) := dq_at (q := (1, .iload_n 1, 1)) dm_Mo_median_0 1 rfl
theorem dc_Mo_median_2 : decode cd_Mo_median 2 = .ok (.invokestatic 87, 3) := dq_at (q := (2, .invokestatic 87, 3)) dm_Mo_median_0 2 rfl
theorem dc_Mo_median_5 : decode cd_Mo_median 5 = .ok (.ifCond .ne 17, 3) := dq_at (q := (5, .ifCond .ne 17, 3)) dm_Mo_median_0 3 rfl
theorem dc_Mo_median_8 : decode cd_Mo_median 8 = .ok (.iload_n 2, 1) := dq_at (q := (8, .iload_n 2, 1)) dm_Mo_median_0 4 rfl
theorem dc_Mo_median_9 : decode cd_Mo_median 9 = .ok (.invokestatic 87, 3) := dq_at (q := (9, .invokestatic 87, 3)) dm_Mo_median_0 5 rfl
theorem dc_Mo_median_12 : decode cd_Mo_median 12 = .ok (.ifCond .ne 10, 3) := dq_at (q := (12, .ifCond .ne 10, 3)) dm_Mo_median_0 6 rfl
theorem dc_Mo_median_15 : decode cd_Mo_median 15 = .ok (.iload_n 3, 1) := dq_at (q := (15, .iload_n 3, 1)) dm_Mo_median_0 7 rfl
theorem dc_Mo_median_16 : decode cd_Mo_median 16 = .ok (.invokestatic 87, 3) := dq_at (q := (16, .invokestatic 87, 3)) dm_Mo_median_0 8 rfl
theorem dc_Mo_median_19 : decode cd_Mo_median 19 = .ok (.ifCond .eq 7, 3) := dq_at (q := (19, .ifCond .eq 7, 3)) dm_Mo_median_0 9 rfl
theorem dc_Mo_median_22 : decode cd_Mo_median 22 = .ok (.iconst 1, 1) := dq_at (q := (22, .iconst 1, 1)) dm_Mo_median_0 10 rfl
theorem dc_Mo_median_23 : decode cd_Mo_median 23 = .ok (.goto 16, 3) := dq_at (q := (23, .goto 16, 3)) dm_Mo_median_0 11 rfl
theorem dc_Mo_median_26 : decode cd_Mo_median 26 = .ok (.aload_n 0, 1) := dq_at (q := (26, .aload_n 0, 1)) dm_Mo_median_0 12 rfl
theorem dc_Mo_median_27 : decode cd_Mo_median 27 = .ok (.getfield 7, 3) := dq_at (q := (27, .getfield 7, 3)) dm_Mo_median_0 13 rfl
theorem dc_Mo_median_30 : decode cd_Mo_median 30 = .ok (.iconst 4, 1) := dq_at (q := (30, .iconst 4, 1)) dm_Mo_median_0 14 rfl
theorem dc_Mo_median_31 : decode cd_Mo_median 31 = .ok (.if_icmp .le 7, 3) := dq_at (q := (31, .if_icmp .le 7, 3)) dm_Mo_median_0 15 rfl
theorem dc_Mo_median_34 : decode cd_Mo_median 34 = .ok (.iconst 2, 1) := dq_at (q := (34, .iconst 2, 1)) dm_Mo_median_0 16 rfl
theorem dc_Mo_median_35 : decode cd_Mo_median 35 = .ok (.goto 4, 3) := dq_at (q := (35, .goto 4, 3)) dm_Mo_median_0 17 rfl
theorem dc_Mo_median_38 : decode cd_Mo_median 38 = .ok (.iconst 0, 1) := dq_at (q := (38, .iconst 0, 1)) dm_Mo_median_0 18 rfl
theorem dc_Mo_median_39 : decode cd_Mo_median 39 = .ok (.putfield 75, 3) := dq_at (q := (39, .putfield 75, 3)) dm_Mo_median_0 19 rfl
theorem dc_Mo_median_42 : decode cd_Mo_median 42 = .ok (.aload_n 0, 1) := dq_at (q := (42, .aload_n 0, 1)) dm_Mo_median_0 20 rfl
theorem dc_Mo_median_43 : decode cd_Mo_median 43 = .ok (.getfield 75, 3) := dq_at (q := (43, .getfield 75, 3)) dm_Mo_median_0 21 rfl
theorem dc_Mo_median_46 : decode cd_Mo_median 46 = .ok (.ifCond .le 5, 3) := dq_at (q := (46, .ifCond .le 5, 3)) dm_Mo_median_0 22 rfl
theorem dc_Mo_median_49 : decode cd_Mo_median 49 = .ok (.iconst 0, 1) := dq_at (q := (49, .iconst 0, 1)) dm_Mo_median_0 23 rfl
theorem dc_Mo_median_50 : decode cd_Mo_median 50 = .ok (.ireturn, 1) := dq_at (q := (50, .ireturn, 1)) dm_Mo_median_0 24 rfl
theorem dc_Mo_median_51 : decode cd_Mo_median 51 = .ok (.aload_n 0, 1) := dq_at (q := (51, .aload_n 0, 1)) dm_Mo_median_0 25 rfl
theorem dc_Mo_median_52 : decode cd_Mo_median 52 = .ok (.invokevirtual 117, 3) := dq_at (q := (52, .invokevirtual 117, 3)) dm_Mo_median_0 26 rfl
theorem dc_Mo_median_55 : decode cd_Mo_median 55 = .ok (.bipush 99, 2) := dq_at (q := (55, .bipush 99, 2)) dm_Mo_median_0 27 rfl
theorem dc_Mo_median_57 : decode cd_Mo_median 57 = .ok (.istore 4, 2) := dq_at (q := (57, .istore 4, 2)) dm_Mo_median_0 28 rfl
theorem dc_Mo_median_59 : decode cd_Mo_median 59 = .ok (.iconst 0, 1) := dq_at (q := (59, .iconst 0, 1)) dm_Mo_median_0 29 rfl
theorem dc_Mo_median_60 : decode cd_Mo_median 60 = .ok (.istore 5, 2) := dq_at (q := (60, .istore 5, 2)) dm_Mo_median_0 30 rfl
theorem dc_Mo_median_62 : decode cd_Mo_median 62 = .ok (.iload 5, 2) := dq_at (q := (62, .iload 5, 2)) dm_Mo_median_0 31 rfl
theorem dc_Mo_median_64 : decode cd_Mo_median 64 = .ok (.aload_n 0, 1) := dq_at (q := (64, .aload_n 0, 1)) dm_Mo_median_0 32 rfl
theorem dc_Mo_median_65 : decode cd_Mo_median 65 = .ok (.invokevirtual 98, 3) := dq_at (q := (65, .invokevirtual 98, 3)) dm_Mo_median_0 33 rfl
theorem dc_Mo_median_68 : decode cd_Mo_median 68 = .ok (.if_icmp .ge 143, 3) := dq_at (q := (68, .if_icmp .ge 143, 3)) dm_Mo_median_0 34 rfl
theorem dc_Mo_median_71 : decode cd_Mo_median 71 = .ok (.aload_n 0, 1) := dq_at (q := (71, .aload_n 0, 1)) dm_Mo_median_0 35 rfl
theorem dc_Mo_median_72 : decode cd_Mo_median 72 = .ok (.iload 5, 2) := dq_at (q := (72, .iload 5, 2)) dm_Mo_median_0 36 rfl
theorem dc_Mo_median_74 : decode cd_Mo_median 74 = .ok (.aload_n 0, 1) := dq_at (q := (74, .aload_n 0, 1)) dm_Mo_median_0 37 rfl
theorem dc_Mo_median_75 : decode cd_Mo_median 75 = .ok (.getfield 48, 3) := dq_at (q := (75, .getfield 48, 3)) dm_Mo_median_0 38 rfl
theorem dc_Mo_median_78 : decode cd_Mo_median 78 = .ok (.invokevirtual 109, 3) := dq_at (q := (78, .invokevirtual 109, 3)) dm_Mo_median_0 39 rfl
theorem dc_Mo_median_81 : decode cd_Mo_median 81 = .ok (.aload_n 0, 1) := dq_at (q := (81, .aload_n 0, 1)) dm_Mo_median_0 40 rfl
theorem dc_Mo_median_82 : decode cd_Mo_median 82 = .ok (.aload_n 0, 1) := dq_at (q := (82, .aload_n 0, 1)) dm_Mo_median_0 41 rfl
theorem dc_Mo_median_83 : decode cd_Mo_median 83 = .ok (.getfield 48, 3) := dq_at (q := (83, .getfield 48, 3)) dm_Mo_median_0 42 rfl
theorem dc_Mo_median_86 : decode cd_Mo_median 86 = .ok (.iconst 0, 1) := dq_at (q := (86, .iconst 0, 1)) dm_Mo_median_0 43 rfl
theorem dc_Mo_median_87 : decode cd_Mo_median 87 = .ok (.aload_n 0, 1) := dq_at (q := (87, .aload_n 0, 1)) dm_Mo_median_0 44 rfl
theorem dc_Mo_median_88 : decode cd_Mo_median 88 = .ok (.getfield 13, 3) := dq_at (q := (88, .getfield 13, 3)) dm_Mo_median_0 45 rfl
theorem dc_Mo_median_91 : decode cd_Mo_median 91 = .ok (.bipush 6, 2) := dq_at (q := (91, .bipush 6, 2)) dm_Mo_median_0 46 rfl
theorem dc_Mo_median_93 : decode cd_Mo_median 93 = .ok (.iload_n 1, 1) := dq_at (q := (93, .iload_n 1, 1)) dm_Mo_median_0 47 rfl
theorem dc_Mo_median_94 : decode cd_Mo_median 94 = .ok (.imul, 1) := dq_at (q := (94, .imul, 1)) dm_Mo_median_0 48 rfl
theorem dc_Mo_median_95 : decode cd_Mo_median 95 = .ok (.invokevirtual 124, 3) := dq_at (q := (95, .invokevirtual 124, 3)) dm_Mo_median_0 49 rfl
theorem dc_Mo_median_98 : decode cd_Mo_median 98 = .ok (.aload_n 0, 1) := dq_at (q := (98, .aload_n 0, 1)) dm_Mo_median_0 50 rfl
theorem dc_Mo_median_99 : decode cd_Mo_median 99 = .ok (.aload_n 0, 1) := dq_at (q := (99, .aload_n 0, 1)) dm_Mo_median_0 51 rfl
theorem dc_Mo_median_100 : decode cd_Mo_median 100 = .ok (.getfield 48, 3) := dq_at (q := (100, .getfield 48, 3)) dm_Mo_median_0 52 rfl
theorem dc_Mo_median_103 : decode cd_Mo_median 103 = .ok (.iconst 0, 1) := dq_at (q := (103, .iconst 0, 1)) dm_Mo_median_0 53 rfl
theorem dc_Mo_median_104 : decode cd_Mo_median 104 = .ok (.aload_n 0, 1) := dq_at (q := (104, .aload_n 0, 1)) dm_Mo_median_0 54 rfl
theorem dc_Mo_median_105 : decode cd_Mo_median 105 = .ok (.getfield 13, 3) := dq_at (q := (105, .getfield 13, 3)) dm_Mo_median_0 55 rfl
theorem dc_Mo_median_108 : decode cd_Mo_median 108 = .ok (.bipush 6, 2) := dq_at (q := (108, .bipush 6, 2)) dm_Mo_median_0 56 rfl
theorem dc_Mo_median_110 : decode cd_Mo_median 110 = .ok (.iload_n 2, 1) := dq_at (q := (110, .iload_n 2, 1)) dm_Mo_median_0 57 rfl
theorem dc_Mo_median_111 : decode cd_Mo_median 111 = .ok (.imul, 1) := dq_at (q := (111, .imul, 1)) dm_Mo_median_0 58 rfl
theorem dc_Mo_median_112 : decode cd_Mo_median 112 = .ok (.invokevirtual 124, 3) := dq_at (q := (112, .invokevirtual 124, 3)) dm_Mo_median_0 59 rfl
def dl_Mo_median_60 : List (Nat × Instr × Nat) := [(115, .iadd, 1), (116, .aload_n 0, 1), (117, .aload_n 0, 1), (118, .getfield 48, 3), (121, .iconst 0, 1), (122, .aload_n 0, 1), (123, .getfield 13, 3), (126, .bipush 6, 2), (128, .iload_n 3, 1), (129, .imul, 1), (130, .invokevirtual 124, 3), (133, .iadd, 1), (134, .istore 6, 2), (136, .iload 6, 2), (138, .iload 4, 2), (140, .if_icmp .lt 29, 3), (143, .iload 6, 2), (145, .iload 4, 2), (147, .if_icmp .ne 58, 3), (150, .aload_n 0, 1), (151, .getfield 48, 3), (154, .aload_n 0, 1), (155, .getfield 51, 3), (158, .iconst 0, 1), (159, .aload_n 0, 1), (160, .getfield 7, 3), (163, .invokestatic 161, 3), (166, .ifCond .eq 39, 3), (169, .iload 6, 2), (171, .istore 4, 2), (173, .iconst 0, 1), (174, .istore 7, 2), (176, .iload 7, 2), (178, .aload_n 0, 1), (179, .getfield 7, 3), (182, .if_icmp .ge 23, 3), (185, .aload_n 0, 1), (186, .getfield 51, 3), (189, .iload 7, 2), (191, .aload_n 0, 1), (192, .getfield 48, 3), (195, .iload 7, 2), (197, .iaload, 1), (198, .iastore, 1), (199, .iinc 7 1, 3), (202, .goto (-26), 3), (205, .iinc 5 1, 3), (208, .goto (-146), 3), (211, .iconst 0, 1), (212, .istore 5, 2), (214, .iload 5, 2), (216, .aload_n 0, 1), (217, .getfield 7, 3), (220, .if_icmp .ge 26, 3), (223, .aload_n 0, 1), (224, .getfield 13, 3), (227, .bipush 24, 2), (229, .iload 5, 2), (231, .iadd, 1), (232, .aload_n 0, 1)]
theorem dm_Mo_median_60 : dl_Mo_median_60.all (fun q => decide (decode cd_Mo_median q.1 = .ok (q.2.1, q.2.2))) = true := by decide +kernel
theorem dc_Mo_median_115 : decode cd_Mo_median 115 = .ok (.iadd, 1) := dq_at (q := (115, .iadd, 1)) dm_Mo_median_60 0 rfl
theorem dc_Mo_median_116 : decode cd_Mo_median 116 = .ok (.aload_n 0, 1) := dq_at (q := (116, .aload_n 0, 1)) dm_Mo_median_60 1 rfl
theorem dc_Mo_median_117 : decode cd_Mo_median 117 = .ok (.aload_n 0, 1) := dq_at (q := (117, .aload_n 0, 1)) dm_Mo_median_60 2 rfl
theorem dc_Mo_median_118 : decode cd_Mo_median 118 = .ok (.getfield 48, 3) := dq_at (q := (118, .getfield 48, 3)) dm_Mo_median_60 3 rfl
theorem dc_Mo_median_121 : decode cd_Mo_median 121 = .ok (.iconst 0, 1) := dq_at (q := (121, .iconst 0, 1)) dm_Mo_median_60 4 rfl
theorem dc_Mo_median_122 : decode cd_Mo_median 122 = .ok (.aload_n 0, 1) := dq_at (q := (122, .aload_n 0, 1)) dm_Mo_median_60 5 rfl
theorem dc_Mo_median_123 : decode cd_Mo_median 123 = .ok (.getfield 13, 3) := dq_at (q := (123, .getfield 13, 3)) dm_Mo_median_60 6 rfl
theorem dc_Mo_median_126 : decode cd_Mo_median 126 = .ok (.bipush 6, 2) := dq_at (q := (126, .bipush 6, 2)) dm_Mo_median_60 7 rfl
theorem dc_Mo_median_128 : decode cd_Mo_median 128 = .ok (.iload_n 3, 1) := dq_at (q := (128, .iload_n 3, 1)) dm_Mo_median_60 8 rfl
theorem dc_Mo_median_129 : decode cd_Mo_median 129 = .ok (.imul, 1) := dq_at (q := (129, .imul, 1)) dm_Mo_median_60 9 rfl
theorem dc_Mo_median_130 : decode cd_Mo_median 130 = .ok (.invokevirtual 124, 3) := dq_at (q := (130, .invokevirtual 124, 3)) dm_Mo_median_60 10 rfl
theorem dc_Mo_median_133 : decode cd_Mo_median 133 = .ok (.iadd, 1) := dq_at (q := (133, .iadd, 1)) dm_Mo_median_60 11 rfl
theorem dc_Mo_median_134 : decode cd_Mo_median 134 = .ok (.istore 6, 2) := dq_at (q := (134, .istore 6, 2)) dm_Mo_median_60 12 rfl
theorem dc_Mo_median_136 : decode cd_Mo_median 136 = .ok (.iload 6, 2) := dq_at (q := (136, .iload 6, 2)) dm_Mo_median_60 13 rfl
theorem dc_Mo_median_138 : decode cd_Mo_median 138 = .ok (.iload 4, 2) := dq_at (q := (138, .iload 4, 2)) dm_Mo_median_60 14 rfl
theorem dc_Mo_median_140 : decode cd_Mo_median 140 = .ok (.if_icmp .lt 29, 3) := dq_at (q := (140, .if_icmp .lt 29, 3)) dm_Mo_median_60 15 rfl
theorem dc_Mo_median_143 : decode cd_Mo_median 143 = .ok (.iload 6, 2) := dq_at (q := (143, .iload 6, 2)) dm_Mo_median_60 16 rfl
theorem dc_Mo_median_145 : decode cd_Mo_median 145 = .ok (.iload 4, 2) := dq_at (q := (145, .iload 4, 2)) dm_Mo_median_60 17 rfl
theorem dc_Mo_median_147 : decode cd_Mo_median 147 = .ok (.if_icmp .ne 58, 3) := dq_at (q := (147, .if_icmp .ne 58, 3)) dm_Mo_median_60 18 rfl
theorem dc_Mo_median_150 : decode cd_Mo_median 150 = .ok (.aload_n 0, 1) := dq_at (q := (150, .aload_n 0, 1)) dm_Mo_median_60 19 rfl
theorem dc_Mo_median_151 : decode cd_Mo_median 151 = .ok (.getfield 48, 3) := dq_at (q := (151, .getfield 48, 3)) dm_Mo_median_60 20 rfl
theorem dc_Mo_median_154 : decode cd_Mo_median 154 = .ok (.aload_n 0, 1) := dq_at (q := (154, .aload_n 0, 1)) dm_Mo_median_60 21 rfl
theorem dc_Mo_median_155 : decode cd_Mo_median 155 = .ok (.getfield 51, 3) := dq_at (q := (155, .getfield 51, 3)) dm_Mo_median_60 22 rfl
theorem dc_Mo_median_158 : decode cd_Mo_median 158 = .ok (.iconst 0, 1) := dq_at (q := (158, .iconst 0, 1)) dm_Mo_median_60 23 rfl
theorem dc_Mo_median_159 : decode cd_Mo_median 159 = .ok (.aload_n 0, 1) := dq_at (q := (159, .aload_n 0, 1)) dm_Mo_median_60 24 rfl
theorem dc_Mo_median_160 : decode cd_Mo_median 160 = .ok (.getfield 7, 3) := dq_at (q := (160, .getfield 7, 3)) dm_Mo_median_60 25 rfl
theorem dc_Mo_median_163 : decode cd_Mo_median 163 = .ok (.invokestatic 161, 3) := dq_at (q := (163, .invokestatic 161, 3)) dm_Mo_median_60 26 rfl
theorem dc_Mo_median_166 : decode cd_Mo_median 166 = .ok (.ifCond .eq 39, 3) := dq_at (q := (166, .ifCond .eq 39, 3)) dm_Mo_median_60 27 rfl
theorem dc_Mo_median_169 : decode cd_Mo_median 169 = .ok (.iload 6, 2) := dq_at (q := (169, .iload 6, 2)) dm_Mo_median_60 28 rfl
theorem dc_Mo_median_171 : decode cd_Mo_median 171 = .ok (.istore 4, 2) := dq_at (q := (171, .istore 4, 2)) dm_Mo_median_60 29 rfl
theorem dc_Mo_median_173 : decode cd_Mo_median 173 = .ok (.iconst 0, 1) := dq_at (q := (173, .iconst 0, 1)) dm_Mo_median_60 30 rfl
theorem dc_Mo_median_174 : decode cd_Mo_median 174 = .ok (.istore 7, 2) := dq_at (q := (174, .istore 7, 2)) dm_Mo_median_60 31 rfl
theorem dc_Mo_median_176 : decode cd_Mo_median 176 = .ok (.iload 7, 2) := dq_at (q := (176, .iload 7, 2)) dm_Mo_median_60 32 rfl
theorem dc_Mo_median_178 : decode cd_Mo_median 178 = .ok (.aload_n 0, 1) := dq_at (q := (178, .aload_n 0, 1)) dm_Mo_median_60 33 rfl
theorem dc_Mo_median_179 : decode cd_Mo_median 179 = .ok (.getfield 7, 3) := dq_at (q := (179, .getfield 7, 3)) dm_Mo_median_60 34 rfl
theorem dc_Mo_median_182 : decode cd_Mo_median 182 = .ok (.if_icmp .ge 23, 3) := dq_at (q := (182, .if_icmp .ge 23, 3)) dm_Mo_median_60 35 rfl
theorem dc_Mo_median_185 : decode cd_Mo_median 185 = .ok (.aload_n 0, 1) := dq_at (q := (185, .aload_n 0, 1)) dm_Mo_median_60 36 rfl
theorem dc_Mo_median_186 : decode cd_Mo_median 186 = .ok (.getfield 51, 3) := dq_at (q := (186, .getfield 51, 3)) dm_Mo_median_60 37 rfl
theorem dc_Mo_median_189 : decode cd_Mo_median 189 = .ok (.iload 7, 2) := dq_at (q := (189, .iload 7, 2)) dm_Mo_median_60 38 rfl
theorem dc_Mo_median_191 : decode cd_Mo_median 191 = .ok (.aload_n 0, 1) := dq_at (q := (191, .aload_n 0, 1)) dm_Mo_median_60 39 rfl
theorem dc_Mo_median_192 : decode cd_Mo_median 192 = .ok (.getfield 48, 3) := dq_at (q := (192, .getfield 48, 3)) dm_Mo_median_60 40 rfl
theorem dc_Mo_median_195 : decode cd_Mo_median 195 = .ok (.iload 7, 2) := dq_at (q := (195, .iload 7, 2)) dm_Mo_median_60 41 rfl
theorem dc_Mo_median_197 : decode cd_Mo_median 197 = .ok (.iaload, 1) := dq_at (q := (197, .iaload, 1)) dm_Mo_median_60 42 rfl
theorem dc_Mo_median_198 : decode cd_Mo_median 198 = .ok (.iastore, 1) := dq_at (q := (198, .iastore, 1)) dm_Mo_median_60 43 rfl
theorem dc_Mo_median_199 : decode cd_Mo_median 199 = .ok (.iinc 7 1, 3) := dq_at (q := (199, .iinc 7 1, 3)) dm_Mo_median_60 44 rfl
theorem dc_Mo_median_202 : decode cd_Mo_median 202 = .ok (.goto (-26), 3) := dq_at (q := (202, .goto (-26), 3)) dm_Mo_median_60 45 rfl
theorem dc_Mo_median_205 : decode cd_Mo_median 205 = .ok (.iinc 5 1, 3) := dq_at (q := (205, .iinc 5 1, 3)) dm_Mo_median_60 46 rfl
theorem dc_Mo_median_208 : decode cd_Mo_median 208 = .ok (.goto (-146), 3) := dq_at (q := (208, .goto (-146), 3)) dm_Mo_median_60 47 rfl
theorem dc_Mo_median_211 : decode cd_Mo_median 211 = .ok (.iconst 0, 1) := dq_at (q := (211, .iconst 0, 1)) dm_Mo_median_60 48 rfl
theorem dc_Mo_median_212 : decode cd_Mo_median 212 = .ok (.istore 5, 2) := dq_at (q := (212, .istore 5, 2)) dm_Mo_median_60 49 rfl
theorem dc_Mo_median_214 : decode cd_Mo_median 214 = .ok (.iload 5, 2) := dq_at (q := (214, .iload 5, 2)) dm_Mo_median_60 50 rfl
theorem dc_Mo_median_216 : decode cd_Mo_median 216 = .ok (.aload_n 0, 1) := dq_at (q := (216, .aload_n 0, 1)) dm_Mo_median_60 51 rfl
theorem dc_Mo_median_217 : decode cd_Mo_median 217 = .ok (.getfield 7, 3) := dq_at (q := (217, .getfield 7, 3)) dm_Mo_median_60 52 rfl
theorem dc_Mo_median_220 : decode cd_Mo_median 220 = .ok (.if_icmp .ge 26, 3) := dq_at (q := (220, .if_icmp .ge 26, 3)) dm_Mo_median_60 53 rfl
theorem dc_Mo_median_223 : decode cd_Mo_median 223 = .ok (.aload_n 0, 1) := dq_at (q := (223, .aload_n 0, 1)) dm_Mo_median_60 54 rfl
theorem dc_Mo_median_224 : decode cd_Mo_median 224 = .ok (.getfield 13, 3) := dq_at (q := (224, .getfield 13, 3)) dm_Mo_median_60 55 rfl
theorem dc_Mo_median_227 : decode cd_Mo_median 227 = .ok (.bipush 24, 2) := dq_at (q := (227, .bipush 24, 2)) dm_Mo_median_60 56 rfl
theorem dc_Mo_median_229 : decode cd_Mo_median 229 = .ok (.iload 5, 2) := dq_at (q := (229, .iload 5, 2)) dm_Mo_median_60 57 rfl
theorem dc_Mo_median_231 : decode cd_Mo_median 231 = .ok (.iadd, 1) := dq_at (q := (231, .iadd, 1)) dm_Mo_median_60 58 rfl
theorem dc_Mo_median_232 : decode cd_Mo_median 232 = .ok (.aload_n 0, 1) := dq_at (q := (232, .aload_n 0, 1)) dm_Mo_median_60 59 rfl
def dl_Mo_median_120 : List (Nat × Instr × Nat) := [(233, .getfield 51, 3), (236, .iload 5, 2), (238, .iaload, 1), (239, .iastore, 1), (240, .iinc 5 1, 3), (243, .goto (-29), 3), (246, .aload_n 0, 1), (247, .getfield 17, 3), (250, .iconst 4, 1), (251, .iconst 0, 1), (252, .iastore, 1), (253, .iload 4, 2), (255, .ireturn, 1)]
theorem dm_Mo_median_120 : dl_Mo_median_120.all (fun q => decide (decode cd_Mo_median q.1 = .ok (q.2.1, q.2.2))) = true := by decide +kernel
theorem dc_Mo_median_233 : decode cd_Mo_median 233 = .ok (.getfield 51, 3) := dq_at (q := (233, .getfield 51, 3)) dm_Mo_median_120 0 rfl
theorem dc_Mo_median_236 : decode cd_Mo_median 236 = .ok (.iload 5, 2) := dq_at (q := (236, .iload 5, 2)) dm_Mo_median_120 1 rfl
theorem dc_Mo_median_238 : decode cd_Mo_median 238 = .ok (.iaload, 1) := dq_at (q := (238, .iaload, 1)) dm_Mo_median_120 2 rfl
theorem dc_Mo_median_239 : decode cd_Mo_median 239 = .ok (.iastore, 1) := dq_at (q := (239, .iastore, 1)) dm_Mo_median_120 3 rfl
theorem dc_Mo_median_240 : decode cd_Mo_median 240 = .ok (.iinc 5 1, 3) := dq_at (q := (240, .iinc 5 1, 3)) dm_Mo_median_120 4 rfl
theorem dc_Mo_median_243 : decode cd_Mo_median 243 = .ok (.goto (-29), 3) := dq_at (q := (243, .goto (-29), 3)) dm_Mo_median_120 5 rfl
theorem dc_Mo_median_246 : decode cd_Mo_median 246 = .ok (.aload_n 0, 1) := dq_at (q := (246, .aload_n 0, 1)) dm_Mo_median_120 6 rfl
theorem dc_Mo_median_247 : decode cd_Mo_median 247 = .ok (.getfield 17, 3) := dq_at (q := (247, .getfield 17, 3)) dm_Mo_median_120 7 rfl
theorem dc_Mo_median_250 : decode cd_Mo_median 250 = .ok (.iconst 4, 1) := dq_at (q := (250, .iconst 4, 1)) dm_Mo_median_120 8 rfl
theorem dc_Mo_median_251 : decode cd_Mo_median 251 = .ok (.iconst 0, 1) := dq_at (q := (251, .iconst 0, 1)) dm_Mo_median_120 9 rfl
theorem dc_Mo_median_252 : decode cd_Mo_median 252 = .ok (.iastore, 1) := dq_at (q := (252, .iastore, 1)) dm_Mo_median_120 10 rfl
theorem dc_Mo_median_253 : decode cd_Mo_median 253 = .ok (.iload 4, 2) := dq_at (q := (253, .iload 4, 2)) dm_Mo_median_120 11 rfl
theorem dc_Mo_median_255 : decode cd_Mo_median 255 = .ok (.ireturn, 1) := dq_at (q := (255, .ireturn, 1)) dm_Mo_median_120 12 rfl
