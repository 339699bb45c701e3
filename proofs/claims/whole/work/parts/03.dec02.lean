def dl_Mo_reverse_0 : List (Nat × Instr × Nat) := [(0, .aload_n 0, 1), (1, .iload_n 1, 1), (2, .invokestatic 87, 3), (5, .ifCond .ne 20, 3), (8, .iload_n 2, 1), (9, .ifCond .lt 16, 3), (12, .iload_n 3, 1), (13, .aload_n 0, 1), (14, .getfield 7, 3), (17, .if_icmp .ge 8, 3), (20, .iload_n 2, 1), (21, .iload_n 3, 1), (22, .if_icmp .le 7, 3), (25, .iconst 1, 1), (26, .goto 4, 3), (29, .iconst 0, 1), (30, .putfield 75, 3), (33, .aload_n 0, 1), (34, .getfield 75, 3), (37, .ifCond .le 4, 3), (40, .return_, 1), (41, .aload_n 0, 1), (42, .getfield 13, 3), (45, .bipush 6, 2), (47, .iload_n 1, 1), (48, .imul, 1), (49, .iload_n 2, 1), (50, .iload_n 3, 1), (51, .invokestatic 91, 3), (54, .aload_n 0, 1), (55, .getfield 17, 3), (58, .iload_n 1, 1), (59, .iaload, 1), (60, .bipush 8, 2), (62, .if_icmp .ne 55, 3), (65, .iconst 0, 1), (66, .istore 4, 2), (68, .iload 4, 2), (70, .bipush 7, 2), (72, .if_icmp .ge 35, 3), (75, .aload_n 0, 1), (76, .getfield 20, 3), (79, .bipush 8, 2), (81, .iload_n 1, 1), (82, .imul, 1), (83, .iload 4, 2), (85, .iadd, 1), (86, .aload_n 0, 1), (87, .getfield 20, 3), (90, .bipush 8, 2), (92, .iload_n 1, 1), (93, .imul, 1), (94, .iload 4, 2), (96, .iadd, 1), (97, .iconst 1, 1), (98, .iadd, 1), (99, .iaload, 1), (100, .iastore, 1), (101, .iinc 4 1, 3), (104, .goto (-36), 3)]
theorem dm_Mo_reverse_0 : dl_Mo_reverse_0.all (fun q => decide (decode cd_Mo_reverse q.1 = .ok (q.2.1, q.2.2))) = true := by decide +kernel
theorem dc_Mo_reverse_0 : decode cd_Mo_reverse 0 = .ok (.aload_n 0, 1) := dq_at (q := (0, .aload_n 0, 1)) dm_Mo_reverse_0 0 rfl
theorem dc_Mo_reverse_1 : decode cd_Mo_reverse 1 = .ok (.iload_n 1, 1) := dq_at (q := (1, .iload_n 1, 1)) dm_Mo_reverse_0 1 rfl
theorem dc_Mo_reverse_2 : decode cd_Mo_reverse 2 = .ok (.invokestatic 87, 3) := dq_at (q := (2, .invokestatic 87, 3)) dm_Mo_reverse_0 2 rfl
theorem dc_Mo_reverse_5 : decode cd_Mo_reverse 5 = .ok (.ifCond .ne 20, 3) := dq_at (q := (5, .ifCond .ne 20, 3)) dm_Mo_reverse_0 3 rfl
theorem dc_Mo_reverse_8 : decode cd_Mo_reverse 8 = .ok (.iload_n 2, 1) := dq_at (q := (8, .iload_n 2, 1)) dm_Mo_reverse_0 4 rfl
theorem dc_Mo_reverse_9 : decode cd_Mo_reverse 9 = .ok (.ifCond .lt 16, 3) := dq_at (q := (9, .ifCond .lt 16, 3)) dm_Mo_reverse_0 5 rfl
theorem dc_Mo_reverse_12 : decode cd_Mo_reverse 12 = .ok (.iload_n 3, 1) := dq_at (q := (12, .iload_n 3, 1)) dm_Mo_reverse_0 6 rfl
theorem dc_Mo_reverse_13 : decode cd_Mo_reverse 13 = .ok (.aload_n 0, 1) := dq_at (q := (13, .aload_n 0, 1)) dm_Mo_reverse_0 7 rfl
theorem dc_Mo_reverse_14 : decode cd_Mo_reverse 14 = .ok (.getfield 7, 3) := dq_at (q := (14, .getfield 7, 3)) dm_Mo_reverse_0 8 rfl
theorem dc_Mo_reverse_17 : decode cd_Mo_reverse 17 = .ok (.if_icmp .ge 8, 3) := dq_at (q := (17, .if_icmp .ge 8, 3)) dm_Mo_reverse_0 9 rfl
theorem dc_Mo_reverse_20 : decode cd_Mo_reverse 20 = .ok (.iload_n 2, 1) := dq_at (q := (20, .iload_n 2, 1)) dm_Mo_reverse_0 10 rfl
theorem dc_Mo_reverse_21 : decode cd_Mo_reverse 21 = .ok (.iload_n 3, 1) := dq_at (q := (21, .iload_n 3, 1)) dm_Mo_reverse_0 11 rfl
theorem dc_Mo_reverse_22 : decode cd_Mo_reverse 22 = .ok (.if_icmp .le 7, 3) := dq_at (q := (22, .if_icmp .le 7, 3)) dm_Mo_reverse_0 12 rfl
theorem dc_Mo_reverse_25 : decode cd_Mo_reverse 25 = .ok (.iconst 1, 1) := dq_at (q := (25, .iconst 1, 1)) dm_Mo_reverse_0 13 rfl
theorem dc_Mo_reverse_26 : decode cd_Mo_reverse 26 = .ok (.goto 4, 3) := dq_at (q := (26, .goto 4, 3)) dm_Mo_reverse_0 14 rfl
theorem dc_Mo_reverse_29 : decode cd_Mo_reverse 29 = .ok (.iconst 0, 1) := dq_at (q := (29, .iconst 0, 1)) dm_Mo_reverse_0 15 rfl
theorem dc_Mo_reverse_30 : decode cd_Mo_reverse 30 = .ok (.putfield 75, 3) := dq_at (q := (30, .putfield 75, 3)) dm_Mo_reverse_0 16 rfl
theorem dc_Mo_reverse_33 : decode cd_Mo_reverse 33 = .ok (.aload_n 0, 1) := dq_at (q := (33, .aload_n 0, 1)) dm_Mo_reverse_0 17 rfl
theorem dc_Mo_reverse_34 : decode cd_Mo_reverse 34 = .ok (.getfield 75, 3) := dq_at (q := (34, .getfield 75, 3)) dm_Mo_reverse_0 18 rfl
theorem dc_Mo_reverse_37 : decode cd_Mo_reverse 37 = .ok (.ifCond .le 4, 3) := dq_at (q := (37, .ifCond .le 4, 3)) dm_Mo_reverse_0 19 rfl
theorem dc_Mo_reverse_40 : decode cd_Mo_reverse 40 = .ok (.return_, 1) := dq_at (q := (40, .return_, 1)) dm_Mo_reverse_0 20 rfl
theorem dc_Mo_reverse_41 : decode cd_Mo_reverse 41 = .ok (.aload_n 0, 1) := dq_at (q := (41, .aload_n 0, 1)) dm_Mo_reverse_0 21 rfl
theorem dc_Mo_reverse_42 : decode cd_Mo_reverse 42 = .ok (.getfield 13, 3) := dq_at (q := (42, .getfield 13, 3)) dm_Mo_reverse_0 22 rfl
theorem dc_Mo_reverse_45 : decode cd_Mo_reverse 45 = .ok (.bipush 6, 2) := dq_at (q := (45, .bipush 6, 2)) dm_Mo_reverse_0 23 rfl
theorem dc_Mo_reverse_47 : decode cd_Mo_reverse 47 = .ok (.iload_n 1, 1) := dq_at (q := (47, .iload_n 1, 1)) dm_Mo_reverse_0 24 rfl
theorem dc_Mo_reverse_48 : decode cd_Mo_reverse 48 = .ok (.imul, 1) := dq_at (q := (48, .imul, 1)) dm_Mo_reverse_0 25 rfl
theorem dc_Mo_reverse_49 : decode cd_Mo_reverse 49 = .ok (.iload_n 2, 1) := dq_at (q := (49, .iload_n 2, 1)) dm_Mo_reverse_0 26 rfl
theorem dc_Mo_reverse_50 : decode cd_Mo_reverse 50 = .ok (.iload_n 3, 1) := dq_at (q := (50, .iload_n 3, 1)) dm_Mo_reverse_0 27 rfl
theorem dc_Mo_reverse_51 : decode cd_Mo_reverse 51 = .ok (.invokestatic 91, 3) := dq_at (q := (51, .invokestatic 91, 3)) dm_Mo_reverse_0 28 rfl
theorem dc_Mo_reverse_54 : decode cd_Mo_reverse 54 = .ok (.aload_n 0, 1) := dq_at (q := (54, .aload_n 0, 1)) dm_Mo_reverse_0 29 rfl
theorem dc_Mo_reverse_55 : decode cd_Mo_reverse 55 = .ok (.getfield 17, 3) := dq_at (q := (55, .getfield 17, 3)) dm_Mo_reverse_0 30 rfl
theorem dc_Mo_reverse_58 : decode cd_Mo_reverse 58 = .ok (.iload_n 1, 1) := dq_at (q := (58, .iload_n 1, 1)) dm_Mo_reverse_0 31 rfl
theorem dc_Mo_reverse_59 : decode cd_Mo_reverse 59 = .ok (.iaload, 1) := dq_at (q := (59, .iaload, 1)) dm_Mo_reverse_0 32 rfl
theorem dc_Mo_reverse_60 : decode cd_Mo_reverse 60 = .ok (.bipush 8, 2) := dq_at (q := (60, .bipush 8, 2)) dm_Mo_reverse_0 33 rfl
theorem dc_Mo_reverse_62 : decode cd_Mo_reverse 62 = .ok (.if_icmp .ne 55, 3) := dq_at (q := (62, .if_icmp .ne 55, 3)) dm_Mo_reverse_0 34 rfl
theorem dc_Mo_reverse_65 : decode cd_Mo_reverse 65 = .ok (.iconst 0, 1) := dq_at (q := (65, .iconst 0, 1)) dm_Mo_reverse_0 35 rfl
theorem dc_Mo_reverse_66 : decode cd_Mo_reverse 66 = .ok (.istore 4, 2) := dq_at (q := (66, .istore 4, 2)) dm_Mo_reverse_0 36 rfl
theorem dc_Mo_reverse_68 : decode cd_Mo_reverse 68 = .ok (.iload 4, 2) := dq_at (q := (68, .iload 4, 2)) dm_Mo_reverse_0 37 rfl
theorem dc_Mo_reverse_70 : decode cd_Mo_reverse 70 = .ok (.bipush 7, 2) := dq_at (q := (70, .bipush 7, 2)) dm_Mo_reverse_0 38 rfl
theorem dc_Mo_reverse_72 : decode cd_Mo_reverse 72 = .ok (.if_icmp .ge 35, 3) := dq_at (q := (72, .if_icmp .ge 35, 3)) dm_Mo_reverse_0 39 rfl
theorem dc_Mo_reverse_75 : decode cd_Mo_reverse 75 = .ok (.aload_n 0, 1) := dq_at (q := (75, .aload_n 0, 1)) dm_Mo_reverse_0 40 rfl
theorem dc_Mo_reverse_76 : decode cd_Mo_reverse 76 = .ok (.getfield 20, 3) := dq_at (q := (76, .getfield 20, 3)) dm_Mo_reverse_0 41 rfl
theorem dc_Mo_reverse_79 : decode cd_Mo_reverse 79 = .ok (.bipush 8, 2) := dq_at (q := (79, .bipush 8, 2)) dm_Mo_reverse_0 42 rfl
theorem dc_Mo_reverse_81 : decode cd_Mo_reverse 81 = .ok (.iload_n 1, 1) := dq_at (q := (81, .iload_n 1, 1)) dm_Mo_reverse_0 43 rfl
theorem dc_Mo_reverse_82 : decode cd_Mo_reverse 82 = .ok (.imul, 1) := dq_at (q := (82, .imul, 1)) dm_Mo_reverse_0 44 rfl
theorem dc_Mo_reverse_83 : decode cd_Mo_reverse 83 = .ok (.iload 4, 2) := dq_at (q := (83, .iload 4, 2)) dm_Mo_reverse_0 45 rfl
theorem dc_Mo_reverse_85 : decode cd_Mo_reverse 85 = .ok (.iadd, 1) := dq_at (q := (85, .iadd, 1)) dm_Mo_reverse_0 46 rfl
theorem dc_Mo_reverse_86 : decode cd_Mo_reverse 86 = .ok (.aload_n 0, 1) := dq_at (q := (86, .aload_n 0, 1)) dm_Mo_reverse_0 47 rfl
theorem dc_Mo_reverse_87 : decode cd_Mo_reverse 87 = .ok (.getfield 20, 3) := dq_at (q := (87, .getfield 20, 3)) dm_Mo_reverse_0 48 rfl
theorem dc_Mo_reverse_90 : decode cd_Mo_reverse 90 = .ok (.bipush 8, 2) := dq_at (q := (90, .bipush 8, 2)) dm_Mo_reverse_0 49 rfl
theorem dc_Mo_reverse_92 : decode cd_Mo_reverse 92 = .ok (.iload_n 1, 1) := dq_at (q := (92, .iload_n 1, 1)) dm_Mo_reverse_0 50 rfl
theorem dc_Mo_reverse_93 : decode cd_Mo_reverse 93 = .ok (.imul, 1) := dq_at (q := (93, .imul, 1)) dm_Mo_reverse_0 51 rfl
theorem dc_Mo_reverse_94 : decode cd_Mo_reverse 94 = .ok (.iload 4, 2) := dq_at (q := (94, .iload 4, 2)) dm_Mo_reverse_0 52 rfl
theorem dc_Mo_reverse_96 : decode cd_Mo_reverse 96 = .ok (.iadd, 1) := dq_at (q := (96, .iadd, 1)) dm_Mo_reverse_0 53 rfl
theorem dc_Mo_reverse_97 : decode cd_Mo_reverse 97 = .ok (.iconst 1, 1) := dq_at (q := (97, .iconst 1, 1)) dm_Mo_reverse_0 54 rfl
theorem dc_Mo_reverse_98 : decode cd_Mo_reverse 98 = .ok (.iadd, 1) := dq_at (q := (98, .iadd, 1)) dm_Mo_reverse_0 55 rfl
theorem dc_Mo_reverse_99 : decode cd_Mo_reverse 99 = .ok (.iaload, 1) := dq_at (q := (99, .iaload, 1)) dm_Mo_reverse_0 56 rfl
theorem dc_Mo_reverse_100 : decode cd_Mo_reverse 100 = .ok (.iastore, 1) := dq_at (q := (100, .iastore, 1)) dm_Mo_reverse_0 57 rfl
theorem dc_Mo_reverse_101 : decode cd_Mo_reverse 101 = .ok (.iinc 4 1, 3) := dq_at (q := (101, .iinc 4 1, 3)) dm_Mo_reverse_0 58 rfl
theorem dc_Mo_reverse_104 : decode cd_Mo_reverse 104 = .ok (.goto (-36), 3) := dq_at (q := (104, .goto (-36), 3)) dm_Mo_reverse_0 59 rfl
def dl_Mo_reverse_60 : List (Nat × Instr × Nat) := [(107, .aload_n 0, 1), (108, .getfield 17, 3), (111, .iload_n 1, 1), (112, .dup2, 1), (113, .iaload, 1), (114, .iconst 1, 1), (115, .isub, 1), (116, .iastore, 1), (117, .aload_n 0, 1), (118, .getfield 20, 3), (121, .bipush 8, 2), (123, .iload_n 1, 1), (124, .imul, 1), (125, .aload_n 0, 1), (126, .getfield 17, 3), (129, .iload_n 1, 1), (130, .iaload, 1), (131, .iadd, 1), (132, .bipush 10, 2), (134, .iload_n 2, 1), (135, .imul, 1), (136, .iload_n 3, 1), (137, .iadd, 1), (138, .iastore, 1), (139, .aload_n 0, 1), (140, .getfield 17, 3), (143, .iload_n 1, 1), (144, .dup2, 1), (145, .iaload, 1), (146, .iconst 1, 1), (147, .iadd, 1), (148, .iastore, 1), (149, .return_, 1)]
theorem dm_Mo_reverse_60 : dl_Mo_reverse_60.all (fun q => decide (decode cd_Mo_reverse q.1 = .ok (q.2.1, q.2.2))) = true := by decide +kernel
theorem dc_Mo_reverse_107 : decode cd_Mo_reverse 107 = .ok (.aload_n 0, 1) := dq_at (q := (107, .aload_n 0, 1)) dm_Mo_reverse_60 0 rfl
theorem dc_Mo_reverse_108 : decode cd_Mo_reverse 108 = .ok (.getfield 17, 3) := dq_at (q := (108, .getfield 17, 3)) dm_Mo_reverse_60 1 rfl
theorem dc_Mo_reverse_111 : decode cd_Mo_reverse 111 = .ok (.iload_n 1, 1) := dq_at (q := (111, .iload_n 1, 1)) dm_Mo_reverse_60 2 rfl
theorem dc_Mo_reverse_112 : decode cd_Mo_reverse 112 = .ok (.dup2, 1) := dq_at (q := (112, .dup2, 1)) dm_Mo_reverse_60 3 rfl
theorem dc_Mo_reverse_113 : decode cd_Mo_reverse 113 = .ok (.iaload, 1) := dq_at (q := (113, .iaload, 1)) dm_Mo_reverse_60 4 rfl
theorem dc_Mo_reverse_114 : decode cd_Mo_reverse 114 = .ok (.iconst 1, 1) := dq_at (q := (114, .iconst 1, 1)) dm_Mo_reverse_60 5 rfl
theorem dc_Mo_reverse_115 : decode cd_Mo_reverse 115 = .ok (.isub, 1) := dq_at (q := (115, .isub, 1)) dm_Mo_reverse_60 6 rfl
theorem dc_Mo_reverse_116 : decode cd_Mo_reverse 116 = .ok (.iastore, 1) := dq_at (q := (116, .iastore, 1)) dm_Mo_reverse_60 7 rfl
theorem dc_Mo_reverse_117 : decode cd_Mo_reverse 117 = .ok (.aload_n 0, 1) := dq_at (q := (117, .aload_n 0, 1)) dm_Mo_reverse_60 8 rfl
theorem dc_Mo_reverse_118 : decode cd_Mo_reverse 118 = .ok (.getfield 20, 3) := dq_at (q := (118, .getfield 20, 3)) dm_Mo_reverse_60 9 rfl
theorem dc_Mo_reverse_121 : decode cd_Mo_reverse 121 = .ok (.bipush 8, 2) := dq_at (q := (121, .bipush 8, 2)) dm_Mo_reverse_60 10 rfl
theorem dc_Mo_reverse_123 : decode cd_Mo_reverse 123 = .ok (.iload_n 1, 1) := dq_at (q := (123, .iload_n 1, 1)) dm_Mo_reverse_60 11 rfl
theorem dc_Mo_reverse_124 : decode cd_Mo_reverse 124 = .ok (.imul, 1) := dq_at (q := (124, .imul, 1)) dm_Mo_reverse_60 12 rfl
theorem dc_Mo_reverse_125 : decode cd_Mo_reverse 125 = .ok (.aload_n 0, 1) := dq_at (q := (125, .aload_n 0, 1)) dm_Mo_reverse_60 13 rfl
theorem dc_Mo_reverse_126 : decode cd_Mo_reverse 126 = .ok (.getfield 17, 3) := dq_at (q := (126, .getfield 17, 3)) dm_Mo_reverse_60 14 rfl
theorem dc_Mo_reverse_129 : decode cd_Mo_reverse 129 = .ok (.iload_n 1, 1) := dq_at (q := (129, .iload_n 1, 1)) dm_Mo_reverse_60 15 rfl
theorem dc_Mo_reverse_130 : decode cd_Mo_reverse 130 = .ok (.iaload, 1) := dq_at (q := (130, .iaload, 1)) dm_Mo_reverse_60 16 rfl
theorem dc_Mo_reverse_131 : decode cd_Mo_reverse 131 = .ok (.iadd, 1) := dq_at (q := (131, .iadd, 1)) dm_Mo_reverse_60 17 rfl
theorem dc_Mo_reverse_132 : decode cd_Mo_reverse 132 = .ok (.bipush 10, 2) := dq_at (q := (132, .bipush 10, 2)) dm_Mo_reverse_60 18 rfl
theorem dc_Mo_reverse_134 : decode cd_Mo_reverse 134 = .ok (.iload_n 2, 1) := dq_at (q := (134, .iload_n 2, 1)) dm_Mo_reverse_60 19 rfl
theorem dc_Mo_reverse_135 : decode cd_Mo_reverse 135 = .ok (.imul, 1) := dq_at (q := (135, .imul, 1)) dm_Mo_reverse_60 20 rfl
theorem dc_Mo_reverse_136 : decode cd_Mo_reverse 136 = .ok (.iload_n 3, 1) := dq_at (q := (136, .iload_n 3, 1)) dm_Mo_reverse_60 21 rfl
theorem dc_Mo_reverse_137 : decode cd_Mo_reverse 137 = .ok (.iadd, 1) := dq_at (q := (137, .iadd, 1)) dm_Mo_reverse_60 22 rfl
theorem dc_Mo_reverse_138 : decode cd_Mo_reverse 138 = .ok (.iastore, 1) := dq_at (q := (138, .iastore, 1)) dm_Mo_reverse_60 23 rfl
theorem dc_Mo_reverse_139 : decode cd_Mo_reverse 139 = .ok (.aload_n 0, 1) := dq_at (q := (139, .aload_n 0, 1)) dm_Mo_reverse_60 24 rfl
theorem dc_Mo_reverse_140 : decode cd_Mo_reverse 140 = .ok (.getfield 17, 3) := dq_at (q := (140, .getfield 17, 3)) dm_Mo_reverse_60 25 rfl
theorem dc_Mo_reverse_143 : decode cd_Mo_reverse 143 = .ok (.iload_n 1, 1) := dq_at (q := (143, .iload_n 1, 1)) dm_Mo_reverse_60 26 rfl
theorem dc_Mo_reverse_144 : decode cd_Mo_reverse 144 = .ok (.dup2, 1) := dq_at (q := (144, .dup2, 1)) dm_Mo_reverse_60 27 rfl
theorem dc_Mo_reverse_145 : decode cd_Mo_reverse 145 = .ok (.iaload, 1) := dq_at (q := (145, .iaload, 1)) dm_Mo_reverse_60 28 rfl
theorem dc_Mo_reverse_146 : decode cd_Mo_reverse 146 = .ok (.iconst 1, 1) := dq_at (q := (146, .iconst 1, 1)) dm_Mo_reverse_60 29 rfl
theorem dc_Mo_reverse_147 : decode cd_Mo_reverse 147 = .ok (.iadd, 1) := dq_at (q := (147, .iadd, 1)) dm_Mo_reverse_60 30 rfl
theorem dc_Mo_reverse_148 : decode cd_Mo_reverse 148 = .ok (.iastore, 1) := dq_at (q := (148, .iastore, 1)) dm_Mo_reverse_60 31 rfl
theorem dc_Mo_reverse_149 : decode cd_Mo_reverse 149 = .ok (.return_, 1) := dq_at (q := (149, .return_, 1)) dm_Mo_reverse_60 32 rfl
def dl_Mo_undo_0 : List (Nat × Instr × Nat) := [(0, .aload_n 0, 1), (1, .iload_n 1, 1), (2, .invokestatic 87, 3), (5, .ifCond .eq 7, 3), (8, .iconst 1, 1), (9, .goto 4, 3), (12, .iconst 0, 1), (13, .putfield 75, 3), (16, .aload_n 0, 1), (17, .getfield 75, 3), (20, .ifCond .gt 12, 3), (23, .aload_n 0, 1), (24, .getfield 17, 3), (27, .iload_n 1, 1), (28, .iaload, 1), (29, .ifCond .ne 5, 3), (32, .iconst 0, 1), (33, .ireturn, 1), (34, .aload_n 0, 1), (35, .getfield 17, 3), (38, .iload_n 1, 1), (39, .dup2, 1), (40, .iaload, 1), (41, .iconst 1, 1), (42, .isub, 1), (43, .iastore, 1), (44, .aload_n 0, 1), (45, .getfield 20, 3), (48, .bipush 8, 2), (50, .iload_n 1, 1), (51, .imul, 1), (52, .aload_n 0, 1), (53, .getfield 17, 3), (56, .iload_n 1, 1), (57, .iaload, 1), (58, .iadd, 1), (59, .iaload, 1), (60, .istore_n 2, 1), (61, .aload_n 0, 1), (62, .getfield 13, 3), (65, .bipush 6, 2), (67, .iload_n 1, 1), (68, .imul, 1), (69, .iload_n 2, 1), (70, .bipush 10, 2), (72, .idiv, 1), (73, .iload_n 2, 1), (74, .bipush 10, 2), (76, .irem, 1), (77, .invokestatic 91, 3), (80, .iconst 1, 1), (81, .ireturn, 1)]
theorem dm_Mo_undo_0 : dl_Mo_undo_0.all (fun q => decide (decode cd_Mo_undo q.1 = .ok (q.2.1, q.2.2))) = true := by decide +kernel
theorem dc_Mo_undo_0 : decode cd_Mo_undo 0 = .ok (.aload_n 0, 1) := dq_at (q := (0, .aload_n 0, 1)) dm_Mo_undo_0 0 rfl
theorem dc_Mo_undo_1 : decode cd_Mo_undo 1 = .ok (.iload_n 1, 1) := dq_at (q := (1, .iload_n 1, 1)) dm_Mo_undo_0 1 rfl
theorem dc_Mo_undo_2 : decode cd_Mo_undo 2 = .ok (.invokestatic 87, 3) := dq_at (q := (2, .invokestatic 87, 3)) dm_Mo_undo_0 2 rfl
theorem dc_Mo_undo_5 : decode cd_Mo_undo 5 = .ok (.ifCond .eq 7, 3) := dq_at (q := (5, .ifCond .eq 7, 3)) dm_Mo_undo_0 3 rfl
theorem dc_Mo_undo_8 : decode cd_Mo_undo 8 = .ok (.iconst 1, 1) := dq_at (q := (8, .iconst 1, 1)) dm_Mo_undo_0 4 rfl
theorem dc_Mo_undo_9 : decode cd_Mo_undo 9 = .ok (.goto 4, 3) := dq_at (q := (9, .goto 4, 3)) dm_Mo_undo_0 5 rfl
theorem dc_Mo_undo_12 : decode cd_Mo_undo 12 = .ok (.iconst 0, 1) := dq_at (q := (12, .iconst 0, 1)) dm_Mo_undo_0 6 rfl
theorem dc_Mo_undo_13 : decode cd_Mo_undo 13 = .ok (.putfield 75, 3) := dq_at (q := (13, .putfield 75, 3)) dm_Mo_undo_0 7 rfl
theorem dc_Mo_undo_16 : decode cd_Mo_undo 16 = .ok (.aload_n 0, 1) := dq_at (q := (16, .aload_n 0, 1)) dm_Mo_undo_0 8 rfl
theorem dc_Mo_undo_17 : decode cd_Mo_undo 17 = .ok (.getfield 75, 3) := dq_at (q := (17, .getfield 75, 3)) dm_Mo_undo_0 9 rfl
theorem dc_Mo_undo_20 : decode cd_Mo_undo 20 = .ok (.ifCond .gt 12, 3) := dq_at (q := (20, .ifCond .gt 12, 3)) dm_Mo_undo_0 10 rfl
theorem dc_Mo_undo_23 : decode cd_Mo_undo 23 = .ok (.aload_n 0, 1) := dq_at (q := (23, .aload_n 0, 1)) dm_Mo_undo_0 11 rfl
theorem dc_Mo_undo_24 : decode cd_Mo_undo 24 = .ok (.getfield 17, 3) := dq_at (q := (24, .getfield 17, 3)) dm_Mo_undo_0 12 rfl
theorem dc_Mo_undo_27 : decode cd_Mo_undo 27 = .ok (.iload_n 1, 1) := dq_at (q := (27, .iload_n 1, 1)) dm_Mo_undo_0 13 rfl
theorem dc_Mo_undo_28 : decode cd_Mo_undo 28 = .ok (.iaload, 1) := dq_at (q := (28, .iaload, 1)) dm_Mo_undo_0 14 rfl
theorem dc_Mo_undo_29 : decode cd_Mo_undo 29 = .ok (.ifCond .ne 5, 3) := dq_at (q := (29, .ifCond .ne 5, 3)) dm_Mo_undo_0 15 rfl
theorem dc_Mo_undo_32 : decode cd_Mo_undo 32 = .ok (.iconst 0, 1) := dq_at (q := (32, .iconst 0, 1)) dm_Mo_undo_0 16 rfl
theorem dc_Mo_undo_33 : decode cd_Mo_undo 33 = .ok (.ireturn, 1) := dq_at (q := (33, .ireturn, 1)) dm_Mo_undo_0 17 rfl
theorem dc_Mo_undo_34 : decode cd_Mo_undo 34 = .ok (.aload_n 0, 1) := dq_at (q := (34, .aload_n 0, 1)) dm_Mo_undo_0 18 rfl
theorem dc_Mo_undo_35 : decode cd_Mo_undo 35 = .ok (.getfield 17, 3) := dq_at (q := (35, .getfield 17, 3)) dm_Mo_undo_0 19 rfl
theorem dc_Mo_undo_38 : decode cd_Mo_undo 38 = .ok (.iload_n 1, 1) := dq_at (q := (38, .iload_n 1, 1)) dm_Mo_undo_0 20 rfl
theorem dc_Mo_undo_39 : decode cd_Mo_undo 39 = .ok (.dup2, 1) := dq_at (q := (39, .dup2, 1)) dm_Mo_undo_0 21 rfl
theorem dc_Mo_undo_40 : decode cd_Mo_undo 40 = .ok (.iaload, 1) := dq_at (q := (40, .iaload, 1)) dm_Mo_undo_0 22 rfl
theorem dc_Mo_undo_41 : decode cd_Mo_undo 41 = .ok (.iconst 1, 1) := dq_at (q := (41, .iconst 1, 1)) dm_Mo_undo_0 23 rfl
theorem dc_Mo_undo_42 : decode cd_Mo_undo 42 = .ok (.isub, 1) := dq_at (q := (42, .isub, 1)) dm_Mo_undo_0 24 rfl
theorem dc_Mo_undo_43 : decode cd_Mo_undo 43 = .ok (.iastore, 1) := dq_at (q := (43, .iastore, 1)) dm_Mo_undo_0 25 rfl
theorem dc_Mo_undo_44 : decode cd_Mo_undo 44 = .ok (.aload_n 0, 1) := dq_at (q := (44, .aload_n 0, 1)) dm_Mo_undo_0 26 rfl
theorem dc_Mo_undo_45 : decode cd_Mo_undo 45 = .ok (.getfield 20, 3) := dq_at (q := (45, .getfield 20, 3)) dm_Mo_undo_0 27 rfl
theorem dc_Mo_undo_48 : decode cd_Mo_undo 48 = .ok (.bipush 8, 2) := dq_at (q := (48, .bipush 8, 2)) dm_Mo_undo_0 28 rfl
theorem dc_Mo_undo_50 : decode cd_Mo_undo 50 = .ok (.iload_n 1, 1) := dq_at (q := (50, .iload_n 1, 1)) dm_Mo_undo_0 29 rfl
theorem dc_Mo_undo_51 : decode cd_Mo_undo 51 = .ok (.imul, 1) := dq_at (q := (51, .imul, 1)) dm_Mo_undo_0 30 rfl
theorem dc_Mo_undo_52 : decode cd_Mo_undo 52 = .ok (.aload_n 0, 1) := dq_at (q := (52, .aload_n 0, 1)) dm_Mo_undo_0 31 rfl
theorem dc_Mo_undo_53 : decode cd_Mo_undo 53 = .ok (.getfield 17, 3) := dq_at (q := (53, .getfield 17, 3)) dm_Mo_undo_0 32 rfl
theorem dc_Mo_undo_56 : decode cd_Mo_undo 56 = .ok (.iload_n 1, 1) := dq_at (q := (56, .iload_n 1, 1)) dm_Mo_undo_0 33 rfl
theorem dc_Mo_undo_57 : decode cd_Mo_undo 57 = .ok (.iaload, 1) := dq_at (q := (57, .iaload, 1)) dm_Mo_undo_0 34 rfl
theorem dc_Mo_undo_58 : decode cd_Mo_undo 58 = .ok (.iadd, 1) := dq_at (q := (58, .iadd, 1)) dm_Mo_undo_0 35 rfl
theorem dc_Mo_undo_59 : decode cd_Mo_undo 59 = .ok (.iaload, 1) := dq_at (q := (59, .iaload, 1)) dm_Mo_undo_0 36 rfl
theorem dc_Mo_undo_60 : decode cd_Mo_undo 60 = .ok (.istore_n 2, 1) := dq_at (q := (60, .istore_n 2, 1)) dm_Mo_undo_0 37 rfl
theorem dc_Mo_undo_61 : decode cd_Mo_undo 61 = .ok (.aload_n 0, 1) := dq_at (q := (61, .aload_n 0, 1)) dm_Mo_undo_0 38 rfl
theorem dc_Mo_undo_62 : decode cd_Mo_undo 62 = .ok (.getfield 13, 3) := dq_at (q := (62, .getfield 13, 3)) dm_Mo_undo_0 39 rfl
theorem dc_Mo_undo_65 : decode cd_Mo_undo 65 = .ok (.bipush 6, 2) := dq_at (q := (65, .bipush 6, 2)) dm_Mo_undo_0 40 rfl
theorem dc_Mo_undo_67 : decode cd_Mo_undo 67 = .ok (.iload_n 1, 1) := dq_at (q := (67, .iload_n 1, 1)) dm_Mo_undo_0 41 rfl
theorem dc_Mo_undo_68 : decode cd_Mo_undo 68 = .ok (.imul, 1) := dq_at (q := (68, .imul, 1)) dm_Mo_undo_0 42 rfl
theorem dc_Mo_undo_69 : decode cd_Mo_undo 69 = .ok (.iload_n 2, 1) := dq_at (q := (69, .iload_n 2, 1)) dm_Mo_undo_0 43 rfl
theorem dc_Mo_undo_70 : decode cd_Mo_undo 70 = .ok (.bipush 10, 2) := dq_at (q := (70, .bipush 10, 2)) dm_Mo_undo_0 44 rfl
theorem dc_Mo_undo_72 : decode cd_Mo_undo 72 = .ok (.idiv, 1) := dq_at (q := (72, .idiv, 1)) dm_Mo_undo_0 45 rfl
theorem dc_Mo_undo_73 : decode cd_Mo_undo 73 = .ok (.iload_n 2, 1) := dq_at (q := (73, .iload_n 2, 1)) dm_Mo_undo_0 46 rfl
theorem dc_Mo_undo_74 : decode cd_Mo_undo 74 = .ok (.bipush 10, 2) := dq_at (q := (74, .bipush 10, 2)) dm_Mo_undo_0 47 rfl
theorem dc_Mo_undo_76 : decode cd_Mo_undo 76 = .ok (.irem, 1) := dq_at (q := (76, .irem, 1)) dm_Mo_undo_0 48 rfl
theorem dc_Mo_undo_77 : decode cd_Mo_undo 77 = .ok (.invokestatic 91, 3) := dq_at (q := (77, .invokestatic 91, 3)) dm_Mo_undo_0 49 rfl
theorem dc_Mo_undo_80 : decode cd_Mo_undo 80 = .ok (.iconst 1, 1) := dq_at (q := (80, .iconst 1, 1)) dm_Mo_undo_0 50 rfl
theorem dc_Mo_undo_81 : decode cd_Mo_undo 81 = .ok (.ireturn, 1) := dq_at (q := (81, .ireturn, 1)) dm_Mo_undo_0 51 rfl
def dl_Mo_relate_0 : List (Nat × Instr × Nat) := [(0, .iconst 0, 1), (1, .istore 5, 2), (3, .iload 5, 2), (5, .aload_n 0, 1), (6, .getfield 7, 3), (9, .if_icmp .ge 85, 3), (12, .aload_n 1, 1), (13, .iload_n 2, 1), (14, .iload 5, 2), (16, .iadd, 1), (17, .iaload, 1), (18, .istore 6, 2), (20, .iconst 0, 1), (21, .istore 7, 2), (23, .iload 7, 2), (25, .aload_n 0, 1), (26, .getfield 7, 3), (29, .if_icmp .ge 59, 3), (32, .aload_n 3, 1), (33, .iload 4, 2), (35, .iload 7, 2), (37, .iadd, 1), (38, .iaload, 1), (39, .istore 8, 2), (41, .iload 6, 2), (43, .iload 8, 2), (45, .if_icmp .eq 11, 3), (48, .iload 6, 2), (50, .iload 8, 2), (52, .ineg, 1), (53, .if_icmp .ne 29, 3), (56, .aload_n 0, 1), (57, .getfield 45, 3), (60, .iload 5, 2), (62, .iload 6, 2), (64, .iload 8, 2), (66, .if_icmp .ne 10, 3), (69, .iload 7, 2), (71, .iconst 1, 1), (72, .iadd, 1), (73, .goto 8, 3), (76, .iload 7, 2), (78, .ineg, 1), (79, .iconst 1, 1), (80, .isub, 1), (81, .iastore, 1), (82, .iinc 7 1, 3), (85, .goto (-62), 3), (88, .iinc 5 1, 3), (91, .goto (-88), 3), (94, .return_, 1)]
theorem dm_Mo_relate_0 : dl_Mo_relate_0.all (fun q => decide (decode cd_Mo_relate q.1 = .ok (q.2.1, q.2.2))) = true := by decide +kernel
theorem dc_Mo_relate_0 : decode cd_Mo_relate 0 = .ok (.iconst 0, 1) := dq_at (q := (0, .iconst 0, 1)) dm_Mo_relate_0 0 rfl
theorem dc_Mo_relate_1 : decode cd_Mo_relate 1 = .ok (.istore 5, 2) := dq_at (q := (1, .istore 5, 2)) dm_Mo_relate_0 1 rfl
theorem dc_Mo_relate_3 : decode cd_Mo_relate 3 = .ok (.iload 5, 2) := dq_at (q := (3, .iload 5, 2)) dm_Mo_relate_0 2 rfl
theorem dc_Mo_relate_5 : decode cd_Mo_relate 5 = .ok (.aload_n 0, 1) := dq_at (q := (5, .aload_n 0, 1)) dm_Mo_relate_0 3 rfl
theorem dc_Mo_relate_6 : decode cd_Mo_relate 6 = .ok (.getfield 7, 3) := dq_at (q := (6, .getfield 7, 3)) dm_Mo_relate_0 4 rfl
theorem dc_Mo_relate_9 : decode cd_Mo_relate 9 = .ok (.if_icmp .ge 85, 3) := dq_at (q := (9, .if_icmp .ge 85, 3)) dm_Mo_relate_0 5 rfl
theorem dc_Mo_relate_12 : decode cd_Mo_relate 12 = .ok (.aload_n 1, 1) := dq_at (q := (12, .aload_n 1, 1)) dm_Mo_relate_0 6 rfl
theorem dc_Mo_relate_13 : decode cd_Mo_relate 13 = .ok (.iload_n 2, 1) := dq_at (q := (13, .iload_n 2, 1)) dm_Mo_relate_0 7 rfl
theorem dc_Mo_relate_14 : decode cd_Mo_relate 14 = .ok (.iload 5, 2) := dq_at (q := (14, .iload 5, 2)) dm_Mo_relate_0 8 rfl
theorem dc_Mo_relate_16 : decode cd_Mo_relate 16 = .ok (.iadd, 1) := dq_at (q := (16, .iadd, 1)) dm_Mo_relate_0 9 rfl
theorem dc_Mo_relate_17 : decode cd_Mo_relate 17 = .ok (.iaload, 1) := dq_at (q := (17, .iaload, 1)) dm_Mo_relate_0 10 rfl
theorem dc_Mo_relate_18 : decode cd_Mo_relate 18 = .ok (.istore 6, 2) := dq_at (q := (18, .istore 6, 2)) dm_Mo_relate_0 11 rfl
theorem dc_Mo_relate_20 : decode cd_Mo_relate 20 = .ok (.iconst 0, 1) := dq_at (q := (20, .iconst 0, 1)) dm_Mo_relate_0 12 rfl
theorem dc_Mo_relate_21 : decode cd_Mo_relate 21 = .ok (.istore 7, 2) := dq_at (q := (21, .istore 7, 2)) dm_Mo_relate_0 13 rfl
theorem dc_Mo_relate_23 : decode cd_Mo_relate 23 = .ok (.iload 7, 2) := dq_at (q := (23, .iload 7, 2)) dm_Mo_relate_0 14 rfl
theorem dc_Mo_relate_25 : decode cd_Mo_relate 25 = .ok (.aload_n 0, 1) := dq_at (q := (25, .aload_n 0, 1)) dm_Mo_relate_0 15 rfl
theorem dc_Mo_relate_26 : decode cd_Mo_relate 26 = .ok (.getfield 7, 3) := dq_at (q := (26, .getfield 7, 3)) dm_Mo_relate_0 16 rfl
theorem dc_Mo_relate_29 : decode cd_Mo_relate 29 = .ok (.if_icmp .ge 59, 3) := dq_at (q := (29, .if_icmp .ge 59, 3)) dm_Mo_relate_0 17 rfl
theorem dc_Mo_relate_32 : decode cd_Mo_relate 32 = .ok (.aload_n 3, 1) := dq_at (q := (32, .aload_n 3, 1)) dm_Mo_relate_0 18 rfl
theorem dc_Mo_relate_33 : decode cd_Mo_relate 33 = .ok (.iload 4, 2) := dq_at (q := (33, .iload 4, 2)) dm_Mo_relate_0 19 rfl
theorem dc_Mo_relate_35 : decode cd_Mo_relate 35 = .ok (.iload 7, 2) := dq_at (q := (35, .iload 7, 2)) dm_Mo_relate_0 20 rfl
theorem dc_Mo_relate_37 : decode cd_Mo_relate 37 = .ok (.iadd, 1) := dq_at (q := (37, .iadd, 1)) dm_Mo_relate_0 21 rfl
theorem dc_Mo_relate_38 : decode cd_Mo_relate 38 = .ok (.iaload, 1) := dq_at (q := (38, .iaload, 1)) dm_Mo_relate_0 22 rfl
theorem dc_Mo_relate_39 : decode cd_Mo_relate 39 = .ok (.istore 8, 2) := dq_at (q := (39, .istore 8, 2)) dm_Mo_relate_0 23 rfl
theorem dc_Mo_relate_41 : decode cd_Mo_relate 41 = .ok (.iload 6, 2) := dq_at (q := (41, .iload 6, 2)) dm_Mo_relate_0 24 rfl
theorem dc_Mo_relate_43 : decode cd_Mo_relate 43 = .ok (.iload 8, 2) := dq_at (q := (43, .iload 8, 2)) dm_Mo_relate_0 25 rfl
theorem dc_Mo_relate_45 : decode cd_Mo_relate 45 = .ok (.if_icmp .eq 11, 3) := dq_at (q := (45, .if_icmp .eq 11, 3)) dm_Mo_relate_0 26 rfl
theorem dc_Mo_relate_48 : decode cd_Mo_relate 48 = .ok (.iload 6, 2) := dq_at (q := (48, .iload 6, 2)) dm_Mo_relate_0 27 rfl
theorem dc_Mo_relate_50 : decode cd_Mo_relate 50 = .ok (.iload 8, 2) := dq_at (q := (50, .iload 8, 2)) dm_Mo_relate_0 28 rfl
theorem dc_Mo_relate_52 : decode cd_Mo_relate 52 = .ok (.ineg, 1) := dq_at (q := (52, .ineg, 1)) dm_Mo_relate_0 29 rfl
theorem dc_Mo_relate_53 : decode cd_Mo_relate 53 = .ok (.if_icmp .ne 29, 3) := dq_at (q := (53, .if_icmp .ne 29, 3)) dm_Mo_relate_0 30 rfl
theorem dc_Mo_relate_56 : decode cd_Mo_relate 56 = .ok (.aload_n 0, 1) := dq_at (q := (56, .aload_n 0, 1)) dm_Mo_relate_0 31 rfl
theorem dc_Mo_relate_57 : decode cd_Mo_relate 57 = .ok (.getfield 45, 3) := dq_at (q := (57, .getfield 45, 3)) dm_Mo_relate_0 32 rfl
theorem dc_Mo_relate_60 : decode cd_Mo_relate 60 = .ok (.iload 5, 2) := dq_at (q := (60, .iload 5, 2)) dm_Mo_relate_0 33 rfl
theorem dc_Mo_relate_62 : decode cd_Mo_relate 62 = .ok (.iload 6, 2) := dq_at (q := (62, .iload 6, 2)) dm_Mo_relate_0 34 rfl
theorem dc_Mo_relate_64 : decode cd_Mo_relate 64 = .ok (.iload 8, 2) := dq_at (q := (64, .iload 8, 2)) dm_Mo_relate_0 35 rfl
theorem dc_Mo_relate_66 : decode cd_Mo_relate 66 = .ok (.if_icmp .ne 10, 3) := dq_at (q := (66, .if_icmp .ne 10, 3)) dm_Mo_relate_0 36 rfl
theorem dc_Mo_relate_69 : decode cd_Mo_relate 69 = .ok (.iload 7, 2) := dq_at (q := (69, .iload 7, 2)) dm_Mo_relate_0 37 rfl
theorem dc_Mo_relate_71 : decode cd_Mo_relate 71 = .ok (.iconst 1, 1) := dq_at (q := (71, .iconst 1, 1)) dm_Mo_relate_0 38 rfl
theorem dc_Mo_relate_72 : decode cd_Mo_relate 72 = .ok (.iadd, 1) := dq_at (q := (72, .iadd, 1)) dm_Mo_relate_0 39 rfl
theorem dc_Mo_relate_73 : decode cd_Mo_relate 73 = .ok (.goto 8, 3) := dq_at (q := (73, .goto 8, 3)) dm_Mo_relate_0 40 rfl
theorem dc_Mo_relate_76 : decode cd_Mo_relate 76 = .ok (.iload 7, 2) := dq_at (q := (76, .iload 7, 2)) dm_Mo_relate_0 41 rfl
theorem dc_Mo_relate_78 : decode cd_Mo_relate 78 = .ok (.ineg, 1) := dq_at (q := (78, .ineg, 1)) dm_Mo_relate_0 42 rfl
theorem dc_Mo_relate_79 : decode cd_Mo_relate 79 = .ok (.iconst 1, 1) := dq_at (q := (79, .iconst 1, 1)) dm_Mo_relate_0 43 rfl
theorem dc_Mo_relate_80 : decode cd_Mo_relate 80 = .ok (.isub, 1) := dq_at (q := (80, .isub, 1)) dm_Mo_relate_0 44 rfl
theorem dc_Mo_relate_81 : decode cd_Mo_relate 81 = .ok (.iastore, 1) := dq_at (q := (81, .iastore, 1)) dm_Mo_relate_0 45 rfl
theorem dc_Mo_relate_82 : decode cd_Mo_relate 82 = .ok (.iinc 7 1, 3) := dq_at (q := (82, .iinc 7 1, 3)) dm_Mo_relate_0 46 rfl
theorem dc_Mo_relate_85 : decode cd_Mo_relate 85 = .ok (.goto (-62), 3) := dq_at (q := (85, .goto (-62), 3)) dm_Mo_relate_0 47 rfl
theorem dc_Mo_relate_88 : decode cd_Mo_relate 88 = .ok (.iinc 5 1, 3) := dq_at (q := (88, .iinc 5 1, 3)) dm_Mo_relate_0 48 rfl
theorem dc_Mo_relate_91 : decode cd_Mo_relate 91 = .ok (.goto (-88), 3) := dq_at (q := (91, .goto (-88), 3)) dm_Mo_relate_0 49 rfl
theorem dc_Mo_relate_94 : decode cd_Mo_relate 94 = .ok (.return_, 1) := dq_at (q := (94, .return_, 1)) dm_Mo_relate_0 50 rfl
def dl_Mo_rankOf_0 : List (Nat × Instr × Nat) := [(0, .iconst 0, 1), (1, .istore_n 2, 1), (2, .iconst 0, 1), (3, .istore_n 3, 1), (4, .iconst 0, 1), (5, .istore 4, 2), (7, .iload 4, 2), (9, .aload_n 0, 1), (10, .getfield 7, 3), (13, .if_icmp .ge 123, 3), (16, .aload_n 1, 1), (17, .iload 4, 2), (19, .iaload, 1), (20, .ifCond .ge 11, 3), (23, .aload_n 1, 1), (24, .iload 4, 2), (26, .iaload, 1), (27, .ineg, 1), (28, .goto 7, 3), (31, .aload_n 1, 1), (32, .iload 4, 2), (34, .iaload, 1), (35, .istore 5, 2), (37, .iconst 0, 1), (38, .istore 6, 2), (40, .iload 4, 2), (42, .iconst 1, 1), (43, .iadd, 1), (44, .istore 7, 2), (46, .iload 7, 2), (48, .aload_n 0, 1), (49, .getfield 7, 3), (52, .if_icmp .ge 48, 3), (55, .aload_n 1, 1), (56, .iload 7, 2), (58, .iaload, 1), (59, .ifCond .ge 11, 3), (62, .aload_n 1, 1), (63, .iload 7, 2), (65, .iaload, 1), (66, .ineg, 1), (67, .goto 7, 3), (70, .aload_n 1, 1), (71, .iload 7, 2), (73, .iaload, 1), (74, .istore 8, 2), (76, .iload 8, 2), (78, .iload 5, 2), (80, .if_icmp .ge 10, 3), (83, .iload 6, 2), (85, .iconst 1, 1), (86, .iadd, 1), (87, .goto 5, 3), (90, .iload 6, 2), (92, .istore 6, 2), (94, .iinc 7 1, 3), (97, .goto (-51), 3), (100, .iload_n 2, 1), (101, .aload_n 0, 1), (102, .getfield 7, 3)]
theorem dm_Mo_rankOf_0 : dl_Mo_rankOf_0.all (fun q => decide (decode cd_Mo_rankOf q.1 = .ok (q.2.1, q.2.2))) = true := by decide +kernel
theorem dc_Mo_rankOf_0 : decode cd_Mo_rankOf 0 = .ok (.iconst 0, 1) := dq_at (q := (0, .iconst 0, 1)) dm_Mo_rankOf_0 0 rfl
theorem dc_Mo_rankOf_1 : decode cd_Mo_rankOf 1 = .ok (.istore_n 2, 1) := dq_at (q := (1, .istore_n 2, 1)) dm_Mo_rankOf_0 1 rfl
theorem dc_Mo_rankOf_2 : decode cd_Mo_rankOf 2 = .ok (.iconst 0, 1) := dq_at (q := (2, .iconst 0, 1)) dm_Mo_rankOf_0 2 rfl
theorem dc_Mo_rankOf_3 : decode cd_Mo_rankOf 3 = .ok (.istore_n 3, 1) := dq_at (q := (3, .istore_n 3, 1)) dm_Mo_rankOf_0 3 rfl
theorem dc_Mo_rankOf_4 : decode cd_Mo_rankOf 4 = .ok (.iconst 0, 1) := dq_at (q := (4, .iconst 0, 1)) dm_Mo_rankOf_0 4 rfl
theorem dc_Mo_rankOf_5 : decode cd_Mo_rankOf 5 = .ok (.istore 4, 2) := dq_at (q := (5, .istore 4, 2)) dm_Mo_rankOf_0 5 rfl
theorem dc_Mo_rankOf_7 : decode cd_Mo_rankOf 7 = .ok (.iload 4, 2) := dq_at (q := (7, .iload 4, 2)) dm_Mo_rankOf_0 6 rfl
theorem dc_Mo_rankOf_9 : decode cd_Mo_rankOf 9 = .ok (.aload_n 0, 1) := dq_at (q := (9, .aload_n 0, 1)) dm_Mo_rankOf_0 7 rfl
theorem dc_Mo_rankOf_10 : decode cd_Mo_rankOf 10 = .ok (.getfield 7, 3) := dq_at (q := (10, .getfield 7, 3)) dm_Mo_rankOf_0 8 rfl
theorem dc_Mo_rankOf_13 : decode cd_Mo_rankOf 13 = .ok (.if_icmp .ge 123, 3) := dq_at (q := (13, .if_icmp .ge 123, 3)) dm_Mo_rankOf_0 9 rfl
theorem dc_Mo_rankOf_16 : decode cd_Mo_rankOf 16 = .ok (.aload_n 1, 1) := dq_at (q := (16, .aload_n 1, 1)) dm_Mo_rankOf_0 10 rfl
theorem dc_Mo_rankOf_17 : decode cd_Mo_rankOf 17 = .ok (.iload 4, 2) := dq_at (q := (17, .iload 4, 2)) dm_Mo_rankOf_0 11 rfl
theorem dc_Mo_rankOf_19 : decode cd_Mo_rankOf 19 = .ok (.iaload, 1) := dq_at (q := (19, .iaload, 1)) dm_Mo_rankOf_0 12 rfl
theorem dc_Mo_rankOf_20 : decode cd_Mo_rankOf 20 = .ok (.ifCond .ge 11, 3) := dq_at (q := (20, .ifCond .ge 11, 3)) dm_Mo_rankOf_0 13 rfl
theorem dc_Mo_rankOf_23 : decode cd_Mo_rankOf 23 = .ok (.aload_n 1, 1) := dq_at (q := (23, .aload_n 1, 1)) dm_Mo_rankOf_0 14 rfl
theorem dc_Mo_rankOf_24 : decode cd_Mo_rankOf 24 = .ok (.iload 4, 2) := dq_at (q := (24, .iload 4, 2)) dm_Mo_rankOf_0 15 rfl
theorem dc_Mo_rankOf_26 : decode cd_Mo_rankOf 26 = .ok (.iaload, 1) := dq_at (q := (26, .iaload, 1)) dm_Mo_rankOf_0 16 rfl
theorem dc_Mo_rankOf_27 : decode cd_Mo_rankOf 27 = .ok (.ineg, 1) := dq_at (q := (27, .ineg, 1)) dm_Mo_rankOf_0 17 rfl
theorem dc_Mo_rankOf_28 : decode cd_Mo_rankOf 28 = .ok (.goto 7, 3) := dq_at (q := (28, .goto 7, 3)) dm_Mo_rankOf_0 18 rfl
theorem dc_Mo_rankOf_31 : decode cd_Mo_rankOf 31 = .ok (.aload_n 1, 1) := dq_at (q := (31, .aload_n 1, 1)) dm_Mo_rankOf_0 19 rfl
theorem dc_Mo_rankOf_32 : decode cd_Mo_rankOf 32 = .ok (.iload 4, 2) := dq_at (q := (32, .iload 4, 2)) dm_Mo_rankOf_0 20 rfl
theorem dc_Mo_rankOf_34 : decode cd_Mo_rankOf 34 = .ok (.iaload, 1) := dq_at (q := (34, .iaload, 1)) dm_Mo_rankOf_0 21 rfl
theorem dc_Mo_rankOf_35 : decode cd_Mo_rankOf 35 = .ok (.istore 5, 2) := dq_at (q := (35, .istore 5, 2)) dm_Mo_rankOf_0 22 rfl
theorem dc_Mo_rankOf_37 : decode cd_Mo_rankOf 37 = .ok (.iconst 0, 1) := dq_at (q := (37, .iconst 0, 1)) dm_Mo_rankOf_0 23 rfl
theorem dc_Mo_rankOf_38 : decode cd_Mo_rankOf 38 = .ok (.istore 6, 2) := dq_at (q := (38, .istore 6, 2)) dm_Mo_rankOf_0 24 rfl
theorem dc_Mo_rankOf_40 : decode cd_Mo_rankOf 40 = .ok (.iload 4, 2) := dq_at (q := (40, .iload 4, 2)) dm_Mo_rankOf_0 25 rfl
theorem dc_Mo_rankOf_42 : decode cd_Mo_rankOf 42 = .ok (.iconst 1, 1) := dq_at (q := (42, .iconst 1, 1)) dm_Mo_rankOf_0 26 rfl
theorem dc_Mo_rankOf_43 : decode cd_Mo_rankOf 43 = .ok (.iadd, 1) := dq_at (q := (43, .iadd, 1)) dm_Mo_rankOf_0 27 rfl
theorem dc_Mo_rankOf_44 : decode cd_Mo_rankOf 44 = .ok (.istore 7, 2) := dq_at (q := (44, .istore 7, 2)) dm_Mo_rankOf_0 28 rfl
theorem dc_Mo_rankOf_46 : decode cd_Mo_rankOf 46 = .ok (.iload 7, 2) := dq_at (q := (46, .iload 7, 2)) dm_Mo_rankOf_0 29 rfl
theorem dc_Mo_rankOf_48 : decode cd_Mo_rankOf 48 = .ok (.aload_n 0, 1) := dq_at (q := (48, .aload_n 0, 1)) dm_Mo_rankOf_0 30 rfl
theorem dc_Mo_rankOf_49 : decode cd_Mo_rankOf 49 = .ok (.getfield 7, 3) := dq_at (q := (49, .getfield 7, 3)) dm_Mo_rankOf_0 31 rfl
theorem dc_Mo_rankOf_52 : decode cd_Mo_rankOf 52 = .ok (.if_icmp .ge 48, 3) := dq_at (q := (52, .if_icmp .ge 48, 3)) dm_Mo_rankOf_0 32 rfl
theorem dc_Mo_rankOf_55 : decode cd_Mo_rankOf 55 = .ok (.aload_n 1, 1) := dq_at (q := (55, .aload_n 1, 1)) dm_Mo_rankOf_0 33 rfl
theorem dc_Mo_rankOf_56 : decode cd_Mo_rankOf 56 = .ok (.iload 7, 2) := dq_at (q := (56, .iload 7, 2)) dm_Mo_rankOf_0 34 rfl
theorem dc_Mo_rankOf_58 : decode cd_Mo_rankOf 58 = .ok (.iaload, 1) := dq_at (q := (58, .iaload, 1)) dm_Mo_rankOf_0 35 rfl
theorem dc_Mo_rankOf_59 : decode cd_Mo_rankOf 59 = .ok (.ifCond .ge 11, 3) := dq_at (q := (59, .ifCond .ge 11, 3)) dm_Mo_rankOf_0 36 rfl
theorem dc_Mo_rankOf_62 : decode cd_Mo_rankOf 62 = .ok (.aload_n 1, 1) := dq_at (q := (62, .aload_n 1, 1)) dm_Mo_rankOf_0 37 rfl
theorem dc_Mo_rankOf_63 : decode cd_Mo_rankOf 63 = .ok (.iload 7, 2) := dq_at (q := (63, .iload 7, 2)) dm_Mo_rankOf_0 38 rfl
theorem dc_Mo_rankOf_65 : decode cd_Mo_rankOf 65 = .ok (.iaload, 1) := dq_at (q := (65, .iaload, 1)) dm_Mo_rankOf_0 39 rfl
theorem dc_Mo_rankOf_66 : decode cd_Mo_rankOf 66 = .ok (.ineg, 1) := dq_at (q := (66, .ineg, 1)) dm_Mo_rankOf_0 40 rfl
theorem dc_Mo_rankOf_67 : decode cd_Mo_rankOf 67 = .ok (.goto 7, 3) := dq_at (q := (67, .goto 7, 3)) dm_Mo_rankOf_0 41 rfl
theorem dc_Mo_rankOf_70 : decode cd_Mo_rankOf 70 = .ok (.aload_n 1, 1) := dq_at (q := (70, .aload_n 1, 1)) dm_Mo_rankOf_0 42 rfl
theorem dc_Mo_rankOf_71 : decode cd_Mo_rankOf 71 = .ok (.iload 7, 2) := dq_at (q := (71, .iload 7, 2)) dm_Mo_rankOf_0 43 rfl
theorem dc_Mo_rankOf_73 : decode cd_Mo_rankOf 73 = .ok (.iaload, 1) := dq_at (q := (73, .iaload, 1)) dm_Mo_rankOf_0 44 rfl
theorem dc_Mo_rankOf_74 : decode cd_Mo_rankOf 74 = .ok (.istore 8, 2) := dq_at (q := (74, .istore 8, 2)) dm_Mo_rankOf_0 45 rfl
theorem dc_Mo_rankOf_76 : decode cd_Mo_rankOf 76 = .ok (.iload 8, 2) := dq_at (q := (76, .iload 8, 2)) dm_Mo_rankOf_0 46 rfl
theorem dc_Mo_rankOf_78 : decode cd_Mo_rankOf 78 = .ok (.iload 5, 2) := dq_at (q := (78, .iload 5, 2)) dm_Mo_rankOf_0 47 rfl
theorem dc_Mo_rankOf_80 : decode cd_Mo_rankOf 80 = .ok (.if_icmp .ge 10, 3) := dq_at (q := (80, .if_icmp .ge 10, 3)) dm_Mo_rankOf_0 48 rfl
theorem dc_Mo_rankOf_83 : decode cd_Mo_rankOf 83 = .ok (.iload 6, 2) := dq_at (q := (83, .iload 6, 2)) dm_Mo_rankOf_0 49 rfl
theorem dc_Mo_rankOf_85 : decode cd_Mo_rankOf 85 = .ok (.iconst 1, 1) := dq_at (q := (85, .iconst 1, 1)) dm_Mo_rankOf_0 50 rfl
theorem dc_Mo_rankOf_86 : decode cd_Mo_rankOf 86 = .ok (.iadd, 1) := dq_at (q := (86, .iadd, 1)) dm_Mo_rankOf_0 51 rfl
theorem dc_Mo_rankOf_87 : decode cd_Mo_rankOf 87 = .ok (.goto 5, 3) := dq_at (q := (87, .goto 5, 3)) dm_Mo_rankOf_0 52 rfl
theorem dc_Mo_rankOf_90 : decode cd_Mo_rankOf 90 = .ok (.iload 6, 2) := dq_at (q := (90, .iload 6, 2)) dm_Mo_rankOf_0 53 rfl
theorem dc_Mo_rankOf_92 : decode cd_Mo_rankOf 92 = .ok (.istore 6, 2) := dq_at (q := (92, .istore 6, 2)) dm_Mo_rankOf_0 54 rfl
theorem dc_Mo_rankOf_94 : decode cd_Mo_rankOf 94 = .ok (.iinc 7 1, 3) := dq_at (q := (94, .iinc 7 1, 3)) dm_Mo_rankOf_0 55 rfl
theorem dc_Mo_rankOf_97 : decode cd_Mo_rankOf 97 = .ok (.goto (-51), 3) := dq_at (q := (97, .goto (-51), 3)) dm_Mo_rankOf_0 56 rfl
theorem dc_Mo_rankOf_100 : decode cd_Mo_rankOf 100 = .ok (.iload_n 2, 1) := dq_at (q := (100, .iload_n 2, 1)) dm_Mo_rankOf_0 57 rfl
theorem dc_Mo_rankOf_101 : decode cd_Mo_rankOf 101 = .ok (.aload_n 0, 1) := dq_at (q := (101, .aload_n 0, 1)) dm_Mo_rankOf_0 58 rfl
theorem dc_Mo_rankOf_102 : decode cd_Mo_rankOf 102 = .ok (.getfield 7, 3) := dq_at (q := (102, .getfield 7, 3)) dm_Mo_rankOf_0 59 rfl
def dl_Mo_rankOf_60 : List (Nat × Instr × Nat) := [(105, .iload 4, 2), (107, .isub, 1), (108, .imul, 1), (109, .iload 6, 2), (111, .iadd, 1), (112, .istore_n 2, 1), (113, .iload_n 3, 1), (114, .iconst 2, 1), (115, .imul, 1), (116, .aload_n 1, 1), (117, .iload 4, 2), (119, .iaload, 1), (120, .ifCond .ge 7, 3), (123, .iconst 1, 1), (124, .goto 4, 3), (127, .iconst 0, 1), (128, .iadd, 1), (129, .istore_n 3, 1), (130, .iinc 4 1, 3), (133, .goto (-126), 3), (136, .iload_n 2, 1), (137, .aload_n 0, 1), (138, .getfield 7, 3), (141, .ishl, 1), (142, .iload_n 3, 1), (143, .iadd, 1), (144, .ireturn, 1)]
theorem dm_Mo_rankOf_60 : dl_Mo_rankOf_60.all (fun q => decide (decode cd_Mo_rankOf q.1 = .ok (q.2.1, q.2.2))) = true := by decide +kernel
theorem dc_Mo_rankOf_105 : decode cd_Mo_rankOf 105 = .ok (.iload 4, 2) := dq_at (q := (105, .iload 4, 2)) dm_Mo_rankOf_60 0 rfl
theorem dc_Mo_rankOf_107 : decode cd_Mo_rankOf 107 = .ok (.isub, 1) := dq_at (q := (107, .isub, 1)) dm_Mo_rankOf_60 1 rfl
theorem dc_Mo_rankOf_108 : decode cd_Mo_rankOf 108 = .ok (.imul, 1) := dq_at (q := (108, .imul, 1)) dm_Mo_rankOf_60 2 rfl
theorem dc_Mo_rankOf_109 : decode cd_Mo_rankOf 109 = .ok (.iload 6, 2) := dq_at (q := (109, .iload 6, 2)) dm_Mo_rankOf_60 3 rfl
theorem dc_Mo_rankOf_111 : decode cd_Mo_rankOf 111 = .ok (.iadd, 1) := dq_at (q := (111, .iadd, 1)) dm_Mo_rankOf_60 4 rfl
theorem dc_Mo_rankOf_112 : decode cd_Mo_rankOf 112 = .ok (.istore_n 2, 1) := dq_at (q := (112, .istore_n 2, 1)) dm_Mo_rankOf_60 5 rfl
theorem dc_Mo_rankOf_113 : decode cd_Mo_rankOf 113 = .ok (.iload_n 3, 1) := dq_at (q := (113, .iload_n 3, 1)) dm_Mo_rankOf_60 6 rfl
theorem dc_Mo_rankOf_114 : decode cd_Mo_rankOf 114 = .ok (.iconst 2, 1) := dq_at (q := (114, .iconst 2, 1)) dm_Mo_rankOf_60 7 rfl
theorem dc_Mo_rankOf_115 : decode cd_Mo_rankOf 115 = .ok (.imul, 1) := dq_at (q := (115, .imul, 1)) dm_Mo_rankOf_60 8 rfl
theorem dc_Mo_rankOf_116 : decode cd_Mo_rankOf 116 = .ok (.aload_n 1, 1) := dq_at (q := (116, .aload_n 1, 1)) dm_Mo_rankOf_60 9 rfl
theorem dc_Mo_rankOf_117 : decode cd_Mo_rankOf 117 = .ok (.iload 4, 2) := dq_at (q := (117, .iload 4, 2)) dm_Mo_rankOf_60 10 rfl
theorem dc_Mo_rankOf_119 : decode cd_Mo_rankOf 119 = .ok (.iaload, 1) := dq_at (q := (119, .iaload, 1)) dm_Mo_rankOf_60 11 rfl
theorem dc_Mo_rankOf_120 : decode cd_Mo_rankOf 120 = .ok (.ifCond .ge 7, 3) := dq_at (q := (120, .ifCond .ge 7, 3)) dm_Mo_rankOf_60 12 rfl
theorem dc_Mo_rankOf_123 : decode cd_Mo_rankOf 123 = .ok (.iconst 1, 1) := dq_at (q := (123, .iconst 1, 1)) dm_Mo_rankOf_60 13 rfl
theorem dc_Mo_rankOf_124 : decode cd_Mo_rankOf 124 = .ok (.goto 4, 3) := dq_at (q := (124, .goto 4, 3)) dm_Mo_rankOf_60 14 rfl
theorem dc_Mo_rankOf_127 : decode cd_Mo_rankOf 127 = .ok (.iconst 0, 1) := dq_at (q := (127, .iconst 0, 1)) dm_Mo_rankOf_60 15 rfl
theorem dc_Mo_rankOf_128 : decode cd_Mo_rankOf 128 = .ok (.iadd, 1) := dq_at (q := (128, .iadd, 1)) dm_Mo_rankOf_60 16 rfl
theorem dc_Mo_rankOf_129 : decode cd_Mo_rankOf 129 = .ok (.istore_n 3, 1) := dq_at (q := (129, .istore_n 3, 1)) dm_Mo_rankOf_60 17 rfl
theorem dc_Mo_rankOf_130 : decode cd_Mo_rankOf 130 = .ok (.iinc 4 1, 3) := dq_at (q := (130, .iinc 4 1, 3)) dm_Mo_rankOf_60 18 rfl
theorem dc_Mo_rankOf_133 : decode cd_Mo_rankOf 133 = .ok (.goto (-126), 3) := dq_at (q := (133, .goto (-126), 3)) dm_Mo_rankOf_60 19 rfl
theorem dc_Mo_rankOf_136 : decode cd_Mo_rankOf 136 = .ok (.iload_n 2, 1) := dq_at (q := (136, .iload_n 2, 1)) dm_Mo_rankOf_60 20 rfl
theorem dc_Mo_rankOf_137 : decode cd_Mo_rankOf 137 = .ok (.aload_n 0, 1) := dq_at (q := (137, .aload_n 0, 1)) dm_Mo_rankOf_60 21 rfl
theorem dc_Mo_rankOf_138 : decode cd_Mo_rankOf 138 = .ok (.getfield 7, 3) := dq_at (q := (138, .getfield 7, 3)) dm_Mo_rankOf_60 22 rfl
theorem dc_Mo_rankOf_141 : decode cd_Mo_rankOf 141 = .ok (.ishl, 1) := dq_at (q := (141, .ishl, 1)) dm_Mo_rankOf_60 23 rfl
theorem dc_Mo_rankOf_142 : decode cd_Mo_rankOf 142 = .ok (.iload_n 3, 1) := dq_at (q := (142, .iload_n 3, 1)) dm_Mo_rankOf_60 24 rfl
theorem dc_Mo_rankOf_143 : decode cd_Mo_rankOf 143 = .ok (.iadd, 1) := dq_at (q := (143, .iadd, 1)) dm_Mo_rankOf_60 25 rfl
theorem dc_Mo_rankOf_144 : decode cd_Mo_rankOf 144 = .ok (.ireturn, 1) := dq_at (q := (144, .ireturn, 1)) dm_Mo_rankOf_60 26 rfl
def dl_Mo_unrank_0 : List (Nat × Instr × Nat) := [(0, .iload_n 1, 1), (1, .aload_n 0, 1), (2, .getfield 7, 3), (5, .ishr, 1), (6, .istore_n 3, 1), (7, .iconst 0, 1), (8, .istore 4, 2), (10, .iconst 1, 1), (11, .istore 5, 2), (13, .iconst 2, 1), (14, .istore 6, 2), (16, .iload 6, 2), (18, .aload_n 0, 1), (19, .getfield 7, 3), (22, .if_icmp .ge 16, 3), (25, .iload 5, 2), (27, .iload 6, 2), (29, .imul, 1), (30, .istore 5, 2), (32, .iinc 6 1, 3), (35, .goto (-19), 3), (38, .iconst 0, 1), (39, .istore 6, 2), (41, .iload 6, 2), (43, .aload_n 0, 1), (44, .getfield 7, 3), (47, .if_icmp .ge 146, 3), (50, .iload_n 3, 1), (51, .iload 5, 2), (53, .idiv, 1), (54, .istore 7, 2), (56, .iload_n 3, 1), (57, .iload 5, 2), (59, .irem, 1), (60, .istore_n 3, 1), (61, .iload 6, 2), (63, .iconst 1, 1), (64, .iadd, 1), (65, .aload_n 0, 1), (66, .getfield 7, 3), (69, .if_icmp .ge 30, 3), (72, .aload_n 0, 1), (73, .getfield 7, 3), (76, .iconst 1, 1), (77, .isub, 1), (78, .iload 6, 2), (80, .isub, 1), (81, .ifCond .le 18, 3), (84, .iload 5, 2), (86, .aload_n 0, 1), (87, .getfield 7, 3), (90, .iconst 1, 1), (91, .isub, 1), (92, .iload 6, 2), (94, .isub, 1), (95, .idiv, 1), (96, .goto 4, 3), (99, .iconst 1, 1), (100, .istore 5, 2), (102, .iconst 1, 1)]
theorem dm_Mo_unrank_0 : dl_Mo_unrank_0.all (fun q => decide (decode cd_Mo_unrank q.1 = .ok (q.2.1, q.2.2))) = true := by decide +kernel
theorem dc_Mo_unrank_0 : decode cd_Mo_unrank 0 = .ok (.iload_n 1, 1) := dq_at (q := (0, .iload_n 1, 1)) dm_Mo_unrank_0 0 rfl
theorem dc_Mo_unrank_1 : decode cd_Mo_unrank 1 = .ok (.aload_n 0, 1) := dq_at (q := (1, .aload_n 0, 1)) dm_Mo_unrank_0 1 rfl
theorem dc_Mo_unrank_2 : decode cd_Mo_unrank 2 = .ok (.getfield 7, 3) := dq_at (q := (2, .getfield 7, 3)) dm_Mo_unrank_0 2 rfl
theorem dc_Mo_unrank_5 : decode cd_Mo_unrank 5 = .ok (.ishr, 1) := dq_at (q := (5, .ishr, 1)) dm_Mo_unrank_0 3 rfl
theorem dc_Mo_unrank_6 : decode cd_Mo_unrank 6 = .ok (.istore_n 3, 1) := dq_at (q := (6, .istore_n 3, 1)) dm_Mo_unrank_0 4 rfl
theorem dc_Mo_unrank_7 : decode cd_Mo_unrank 7 = .ok (.iconst 0, 1) := dq_at (q := (7, .iconst 0, 1)) dm_Mo_unrank_0 5 rfl
theorem dc_Mo_unrank_8 : decode cd_Mo_unrank 8 = .ok (.istore 4, 2) := dq_at (q := (8, .istore 4, 2)) dm_Mo_unrank_0 6 rfl
theorem dc_Mo_unrank_10 : decode cd_Mo_unrank 10 = .ok (.iconst 1, 1) := dq_at (q := (10, .iconst 1, 1)) dm_Mo_unrank_0 7 rfl
theorem dc_Mo_unrank_11 : decode cd_Mo_unrank 11 = .ok (.istore 5, 2) := dq_at (q := (11, .istore 5, 2)) dm_Mo_unrank_0 8 rfl
theorem dc_Mo_unrank_13 : decode cd_Mo_unrank 13 = .ok (.iconst 2, 1) := dq_at (q := (13, .iconst 2, 1)) dm_Mo_unrank_0 9 rfl
theorem dc_Mo_unrank_14 : decode cd_Mo_unrank 14 = .ok (.istore 6, 2) := dq_at (q := (14, .istore 6, 2)) dm_Mo_unrank_0 10 rfl
theorem dc_Mo_unrank_16 : decode cd_Mo_unrank 16 = .ok (.iload 6, 2) := dq_at (q := (16, .iload 6, 2)) dm_Mo_unrank_0 11 rfl
theorem dc_Mo_unrank_18 : decode cd_Mo_unrank 18 = .ok (.aload_n 0, 1) := dq_at (q := (18, .aload_n 0, 1)) dm_Mo_unrank_0 12 rfl
theorem dc_Mo_unrank_19 : decode cd_Mo_unrank 19 = .ok (.getfield 7, 3) := dq_at (q := (19, .getfield 7, 3)) dm_Mo_unrank_0 13 rfl
theorem dc_Mo_unrank_22 : decode cd_Mo_unrank 22 = .ok (.if_icmp .ge 16, 3) := dq_at (q := (22, .if_icmp .ge 16, 3)) dm_Mo_unrank_0 14 rfl
theorem dc_Mo_unrank_25 : decode cd_Mo_unrank 25 = .ok (.iload 5, 2) := dq_at (q := (25, .iload 5, 2)) dm_Mo_unrank_0 15 rfl
theorem dc_Mo_unrank_27 : decode cd_Mo_unrank 27 = .ok (.iload 6, 2) := dq_at (q := (27, .iload 6, 2)) dm_Mo_unrank_0 16 rfl
theorem dc_Mo_unrank_29 : decode cd_Mo_unrank 29 = .ok (.imul, 1) := dq_at (q := (29, .imul, 1)) dm_Mo_unrank_0 17 rfl
theorem dc_Mo_unrank_30 : decode cd_Mo_unrank 30 = .ok (.istore 5, 2) := dq_at (q := (30, .istore 5, 2)) dm_Mo_unrank_0 18 rfl
theorem dc_Mo_unrank_32 : decode cd_Mo_unrank 32 = .ok (.iinc 6 1, 3) := dq_at (q := (32, .iinc 6 1, 3)) dm_Mo_unrank_0 19 rfl
theorem dc_Mo_unrank_35 : decode cd_Mo_unrank 35 = .ok (.goto (-19), 3) := dq_at (q := (35, .goto (-19), 3)) dm_Mo_unrank_0 20 rfl
theorem dc_Mo_unrank_38 : decode cd_Mo_unrank 38 = .ok (.iconst 0, 1) := dq_at (q := (38, .iconst 0, 1)) dm_Mo_unrank_0 21 rfl
theorem dc_Mo_unrank_39 : decode cd_Mo_unrank 39 = .ok (.istore 6, 2) := dq_at (q := (39, .istore 6, 2)) dm_Mo_unrank_0 22 rfl
theorem dc_Mo_unrank_41 : decode cd_Mo_unrank 41 = .ok (.iload 6, 2) := dq_at (q := (41, .iload 6, 2)) dm_Mo_unrank_0 23 rfl
theorem dc_Mo_unrank_43 : decode cd_Mo_unrank 43 = .ok (.aload_n 0, 1) := dq_at (q := (43, .aload_n 0, 1)) dm_Mo_unrank_0 24 rfl
theorem dc_Mo_unrank_44 : decode cd_Mo_unrank 44 = .ok (.getfield 7, 3) := dq_at (q := (44, .getfield 7, 3)) dm_Mo_unrank_0 25 rfl
theorem dc_Mo_unrank_47 : decode cd_Mo_unrank 47 = .ok (.if_icmp .ge 146, 3) := dq_at (q := (47, .if_icmp .ge 146, 3)) dm_Mo_unrank_0 26 rfl
theorem dc_Mo_unrank_50 : decode cd_Mo_unrank 50 = .ok (.iload_n 3, 1) := dq_at (q := (50, .iload_n 3, 1)) dm_Mo_unrank_0 27 rfl
theorem dc_Mo_unrank_51 : decode cd_Mo_unrank 51 = .ok (.iload 5, 2) := dq_at (q := (51, .iload 5, 2)) dm_Mo_unrank_0 28 rfl
theorem dc_Mo_unrank_53 : decode cd_Mo_unrank 53 = .ok (.idiv, 1) := dq_at (q := (53, .idiv, 1)) dm_Mo_unrank_0 29 rfl
theorem dc_Mo_unrank_54 : decode cd_Mo_unrank 54 = .ok (.istore 7, 2) := dq_at (q := (54, .istore 7, 2)) dm_Mo_unrank_0 30 rfl
theorem dc_Mo_unrank_56 : decode cd_Mo_unrank 56 = .ok (.iload_n 3, 1) := dq_at (q := (56, .iload_n 3, 1)) dm_Mo_unrank_0 31 rfl
theorem dc_Mo_unrank_57 : decode cd_Mo_unrank 57 = .ok (.iload 5, 2) := dq_at (q := (57, .iload 5, 2)) dm_Mo_unrank_0 32 rfl
theorem dc_Mo_unrank_59 : decode cd_Mo_unrank 59 = .ok (.irem, 1) := dq_at (q := (59, .irem, 1)) dm_Mo_unrank_0 33 rfl
theorem dc_Mo_unrank_60 : decode cd_Mo_unrank 60 = .ok (.istore_n 3, 1) := dq_at (q := (60, .istore_n 3, 1)) dm_Mo_unrank_0 34 rfl
theorem dc_Mo_unrank_61 : decode cd_Mo_unrank 61 = .ok (.iload 6, 2) := dq_at (q := (61, .iload 6, 2)) dm_Mo_unrank_0 35 rfl
theorem dc_Mo_unrank_63 : decode cd_Mo_unrank 63 = .ok (.iconst 1, 1) := dq_at (q := (63, .iconst 1, 1)) dm_Mo_unrank_0 36 rfl
theorem dc_Mo_unrank_64 : decode cd_Mo_unrank 64 = .ok (.iadd, 1) := dq_at (q := (64, .iadd, 1)) dm_Mo_unrank_0 37 rfl
theorem dc_Mo_unrank_65 : decode cd_Mo_unrank 65 = .ok (.aload_n 0, 1) := dq_at (q := (65, .aload_n 0, 1)) dm_Mo_unrank_0 38 rfl
theorem dc_Mo_unrank_66 : decode cd_Mo_unrank 66 = .ok (.getfield 7, 3) := dq_at (q := (66, .getfield 7, 3)) dm_Mo_unrank_0 39 rfl
theorem dc_Mo_unrank_69 : decode cd_Mo_unrank 69 = .ok (.if_icmp .ge 30, 3) := dq_at (q := (69, .if_icmp .ge 30, 3)) dm_Mo_unrank_0 40 rfl
theorem dc_Mo_unrank_72 : decode cd_Mo_unrank 72 = .ok (.aload_n 0, 1) := dq_at (q := (72, .aload_n 0, 1)) dm_Mo_unrank_0 41 rfl
theorem dc_Mo_unrank_73 : decode cd_Mo_unrank 73 = .ok (.getfield 7, 3) := dq_at (q := (73, .getfield 7, 3)) dm_Mo_unrank_0 42 rfl
theorem dc_Mo_unrank_76 : decode cd_Mo_unrank 76 = .ok (.iconst 1, 1) := dq_at (q := (76, .iconst 1, 1)) dm_Mo_unrank_0 43 rfl
theorem dc_Mo_unrank_77 : decode cd_Mo_unrank 77 = .ok (.isub, 1) := dq_at (q := (77, .isub, 1)) dm_Mo_unrank_0 44 rfl
theorem dc_Mo_unrank_78 : decode cd_Mo_unrank 78 = .ok (.iload 6, 2) := dq_at (q := (78, .iload 6, 2)) dm_Mo_unrank_0 45 rfl
theorem dc_Mo_unrank_80 : decode cd_Mo_unrank 80 = .ok (.isub, 1) := dq_at (q := (80, .isub, 1)) dm_Mo_unrank_0 46 rfl
theorem dc_Mo_unrank_81 : decode cd_Mo_unrank 81 = .ok (.ifCond .le 18, 3) := dq_at (q := (81, .ifCond .le 18, 3)) dm_Mo_unrank_0 47 rfl
theorem dc_Mo_unrank_84 : decode cd_Mo_unrank 84 = .ok (.iload 5, 2) := dq_at (q := (84, .iload 5, 2)) dm_Mo_unrank_0 48 rfl
theorem dc_Mo_unrank_86 : decode cd_Mo_unrank 86 = .ok (.aload_n 0, 1) := dq_at (q := (86, .aload_n 0, 1)) dm_Mo_unrank_0 49 rfl
theorem dc_Mo_unrank_87 : decode cd_Mo_unrank 87 = .ok (.getfield 7, 3) := dq_at (q := (87, .getfield 7, 3)) dm_Mo_unrank_0 50 rfl
theorem dc_Mo_unrank_90 : decode cd_Mo_unrank 90 = .ok (.iconst 1, 1) := dq_at (q := (90, .iconst 1, 1)) dm_Mo_unrank_0 51 rfl
theorem dc_Mo_unrank_91 : decode cd_Mo_unrank 91 = .ok (.isub, 1) := dq_at (q := (91, .isub, 1)) dm_Mo_unrank_0 52 rfl
theorem dc_Mo_unrank_92 : decode cd_Mo_unrank 92 = .ok (.iload 6, 2) := dq_at (q := (92, .iload 6, 2)) dm_Mo_unrank_0 53 rfl
theorem dc_Mo_unrank_94 : decode cd_Mo_unrank 94 = .ok (.isub, 1) := dq_at (q := (94, .isub, 1)) dm_Mo_unrank_0 54 rfl
theorem dc_Mo_unrank_95 : decode cd_Mo_unrank 95 = .ok (.idiv, 1) := dq_at (q := (95, .idiv, 1)) dm_Mo_unrank_0 55 rfl
theorem dc_Mo_unrank_96 : decode cd_Mo_unrank 96 = .ok (.goto 4, 3) := dq_at (q := (96, .goto 4, 3)) dm_Mo_unrank_0 56 rfl
theorem dc_Mo_unrank_99 : decode cd_Mo_unrank 99 = .ok (.iconst 1, 1) := dq_at (q := (99, .iconst 1, 1)) dm_Mo_unrank_0 57 rfl
theorem dc_Mo_unrank_100 : decode cd_Mo_unrank 100 = .ok (.istore 5, 2) := dq_at (q := (100, .istore 5, 2)) dm_Mo_unrank_0 58 rfl
theorem dc_Mo_unrank_102 : decode cd_Mo_unrank 102 = .ok (.iconst 1, 1) := dq_at (q := (102, .iconst 1, 1)) dm_Mo_unrank_0 59 rfl
def dl_Mo_unrank_60 : List (Nat × Instr × Nat) := [(103, .istore 8, 2), (105, .iload 4, 2), (107, .iload 8, 2), (109, .ishr, 1), (110, .iconst 1, 1), (111, .iand, 1), (112, .iconst 1, 1), (113, .if_icmp .eq 8, 3), (116, .iload 7, 2), (118, .ifCond .le 31, 3), (121, .iload 4, 2), (123, .iload 8, 2), (125, .ishr, 1), (126, .iconst 1, 1), (127, .iand, 1), (128, .iconst 1, 1), (129, .if_icmp .ne 8, 3), (132, .iload 7, 2), (134, .goto 7, 3), (137, .iload 7, 2), (139, .iconst 1, 1), (140, .isub, 1), (141, .istore 7, 2), (143, .iinc 8 1, 3), (146, .goto (-41), 3), (149, .iload 4, 2), (151, .iconst 1, 1), (152, .iload 8, 2), (154, .ishl, 1), (155, .ior, 1), (156, .istore 4, 2), (158, .aload_n 2, 1), (159, .iload 6, 2), (161, .iload_n 1, 1), (162, .aload_n 0, 1), (163, .getfield 7, 3), (166, .iconst 1, 1), (167, .isub, 1), (168, .iload 6, 2), (170, .isub, 1), (171, .ishr, 1), (172, .iconst 1, 1), (173, .iand, 1), (174, .iconst 1, 1), (175, .if_icmp .ne 9, 3), (178, .iload 8, 2), (180, .ineg, 1), (181, .goto 5, 3), (184, .iload 8, 2), (186, .iastore, 1), (187, .iinc 6 1, 3), (190, .goto (-149), 3), (193, .return_, 1)]
theorem dm_Mo_unrank_60 : dl_Mo_unrank_60.all (fun q => decide (decode cd_Mo_unrank q.1 = .ok (q.2.1, q.2.2))) = true := by decide +kernel
theorem dc_Mo_unrank_103 : decode cd_Mo_unrank 103 = .ok (.istore 8, 2) := dq_at (q := (103, .istore 8, 2)) dm_Mo_unrank_60 0 rfl
theorem dc_Mo_unrank_105 : decode cd_Mo_unrank 105 = .ok (.iload 4, 2) := dq_at (q := (105, .iload 4, 2)) dm_Mo_unrank_60 1 rfl
theorem dc_Mo_unrank_107 : decode cd_Mo_unrank 107 = .ok (.iload 8, 2) := dq_at (q := (107, .iload 8, 2)) dm_Mo_unrank_60 2 rfl
theorem dc_Mo_unrank_109 : decode cd_Mo_unrank 109 = .ok (.ishr, 1) := dq_at (q := (109, .ishr, 1)) dm_Mo_unrank_60 3 rfl
theorem dc_Mo_unrank_110 : decode cd_Mo_unrank 110 = .ok (.iconst 1, 1) := dq_at (q := (110, .iconst 1, 1)) dm_Mo_unrank_60 4 rfl
theorem dc_Mo_unrank_111 : decode cd_Mo_unrank 111 = .ok (.iand, 1) := dq_at (q := (111, .iand, 1)) dm_Mo_unrank_60 5 rfl
theorem dc_Mo_unrank_112 : decode cd_Mo_unrank 112 = .ok (.iconst 1, 1) := dq_at (q := (112, .iconst 1, 1)) dm_Mo_unrank_60 6 rfl
theorem dc_Mo_unrank_113 : decode cd_Mo_unrank 113 = .ok (.if_icmp .eq 8, 3) := dq_at (q := (113, .if_icmp .eq 8, 3)) dm_Mo_unrank_60 7 rfl
theorem dc_Mo_unrank_116 : decode cd_Mo_unrank 116 = .ok (.iload 7, 2) := dq_at (q := (116, .iload 7, 2)) dm_Mo_unrank_60 8 rfl
theorem dc_Mo_unrank_118 : decode cd_Mo_unrank 118 = .ok (.ifCond .le 31, 3) := dq_at (q := (118, .ifCond .le 31, 3)) dm_Mo_unrank_60 9 rfl
theorem dc_Mo_unrank_121 : decode cd_Mo_unrank 121 = .ok (.iload 4, 2) := dq_at (q := (121, .iload 4, 2)) dm_Mo_unrank_60 10 rfl
theorem dc_Mo_unrank_123 : decode cd_Mo_unrank 123 = .ok (.iload 8, 2) := dq_at (q := (123, .iload 8, 2)) dm_Mo_unrank_60 11 rfl
theorem dc_Mo_unrank_125 : decode cd_Mo_unrank 125 = .ok (.ishr, 1) := dq_at (q := (125, .ishr, 1)) dm_Mo_unrank_60 12 rfl
theorem dc_Mo_unrank_126 : decode cd_Mo_unrank 126 = .ok (.iconst 1, 1) := dq_at (q := (126, .iconst 1, 1)) dm_Mo_unrank_60 13 rfl
theorem dc_Mo_unrank_127 : decode cd_Mo_unrank 127 = .ok (.iand, 1) := dq_at (q := (127, .iand, 1)) dm_Mo_unrank_60 14 rfl
theorem dc_Mo_unrank_128 : decode cd_Mo_unrank 128 = .ok (.iconst 1, 1) := dq_at (q := (128, .iconst 1, 1)) dm_Mo_unrank_60 15 rfl
theorem dc_Mo_unrank_129 : decode cd_Mo_unrank 129 = .ok (.if_icmp .ne 8, 3) := dq_at (q := (129, .if_icmp .ne 8, 3)) dm_Mo_unrank_60 16 rfl
theorem dc_Mo_unrank_132 : decode cd_Mo_unrank 132 = .ok (.iload 7, 2) := dq_at (q := (132, .iload 7, 2)) dm_Mo_unrank_60 17 rfl
theorem dc_Mo_unrank_134 : decode cd_Mo_unrank 134 = .ok (.goto 7, 3) := dq_at (q := (134, .goto 7, 3)) dm_Mo_unrank_60 18 rfl
theorem dc_Mo_unrank_137 : decode cd_Mo_unrank 137 = .ok (.iload 7, 2) := dq_at (q := (137, .iload 7, 2)) dm_Mo_unrank_60 19 rfl
theorem dc_Mo_unrank_139 : decode cd_Mo_unrank 139 = .ok (.iconst 1, 1) := dq_at (q := (139, .iconst 1, 1)) dm_Mo_unrank_60 20 rfl
theorem dc_Mo_unrank_140 : decode cd_Mo_unrank 140 = .ok (.isub, 1) := dq_at (q := (140, .isub, 1)) dm_Mo_unrank_60 21 rfl
theorem dc_Mo_unrank_141 : decode cd_Mo_unrank 141 = .ok (.istore 7, 2) := dq_at (q := (141, .istore 7, 2)) dm_Mo_unrank_60 22 rfl
theorem dc_Mo_unrank_143 : decode cd_Mo_unrank 143 = .ok (.iinc 8 1, 3) := dq_at (q := (143, .iinc 8 1, 3)) dm_Mo_unrank_60 23 rfl
theorem dc_Mo_unrank_146 : decode cd_Mo_unrank 146 = .ok (.goto (-41), 3) := dq_at (q := (146, .goto (-41), 3)) dm_Mo_unrank_60 24 rfl
theorem dc_Mo_unrank_149 : decode cd_Mo_unrank 149 = .ok (.iload 4, 2) := dq_at (q := (149, .iload 4, 2)) dm_Mo_unrank_60 25 rfl
theorem dc_Mo_unrank_151 : decode cd_Mo_unrank 151 = .ok (.iconst 1, 1) := dq_at (q := (151, .iconst 1, 1)) dm_Mo_unrank_60 26 rfl
theorem dc_Mo_unrank_152 : decode cd_Mo_unrank 152 = .ok (.iload 8, 2) := dq_at (q := (152, .iload 8, 2)) dm_Mo_unrank_60 27 rfl
theorem dc_Mo_unrank_154 : decode cd_Mo_unrank 154 = .ok (.ishl, 1) := dq_at (q := (154, .ishl, 1)) dm_Mo_unrank_60 28 rfl
theorem dc_Mo_unrank_155 : decode cd_Mo_unrank 155 = .ok (.ior, 1) := dq_at (q := (155, .ior, 1)) dm_Mo_unrank_60 29 rfl
theorem dc_Mo_unrank_156 : decode cd_Mo_unrank 156 = .ok (.istore 4, 2) := dq_at (q := (156, .istore 4, 2)) dm_Mo_unrank_60 30 rfl
theorem dc_Mo_unrank_158 : decode cd_Mo_unrank 158 = .ok (.aload_n 2, 1) := dq_at (q := (158, .aload_n 2, 1)) dm_Mo_unrank_60 31 rfl
theorem dc_Mo_unrank_159 : decode cd_Mo_unrank 159 = .ok (.iload 6, 2) := dq_at (q := (159, .iload 6, 2)) dm_Mo_unrank_60 32 rfl
theorem dc_Mo_unrank_161 : decode cd_Mo_unrank 161 = .ok (.iload_n 1, 1) := dq_at (q := (161, .iload_n 1, 1)) dm_Mo_unrank_60 33 rfl
theorem dc_Mo_unrank_162 : decode cd_Mo_unrank 162 = .ok (.aload_n 0, 1) := dq_at (q := (162, .aload_n 0, 1)) dm_Mo_unrank_60 34 rfl
theorem dc_Mo_unrank_163 : decode cd_Mo_unrank 163 = .ok (.getfield 7, 3) := dq_at (q := (163, .getfield 7, 3)) dm_Mo_unrank_60 35 rfl
theorem dc_Mo_unrank_166 : decode cd_Mo_unrank 166 = .ok (.iconst 1, 1) := dq_at (q := (166, .iconst 1, 1)) dm_Mo_unrank_60 36 rfl
theorem dc_Mo_unrank_167 : decode cd_Mo_unrank 167 = .ok (.isub, 1) := dq_at (q := (167, .isub, 1)) dm_Mo_unrank_60 37 rfl
theorem dc_Mo_unrank_168 : decode cd_Mo_unrank 168 = .ok (.iload 6, 2) := dq_at (q := (168, .iload 6, 2)) dm_Mo_unrank_60 38 rfl
theorem dc_Mo_unrank_170 : decode cd_Mo_unrank 170 = .ok (.isub, 1) := dq_at (q := (170, .isub, 1)) dm_Mo_unrank_60 39 rfl
theorem dc_Mo_unrank_171 : decode cd_Mo_unrank 171 = .ok (.ishr, 1) := dq_at (q := (171, .ishr, 1)) dm_Mo_unrank_60 40 rfl
theorem dc_Mo_unrank_172 : decode cd_Mo_unrank 172 = .ok (.iconst 1, 1) := dq_at (q := (172, .iconst 1, 1)) dm_Mo_unrank_60 41 rfl
theorem dc_Mo_unrank_173 : decode cd_Mo_unrank 173 = .ok (.iand, 1) := dq_at (q := (173, .iand, 1)) dm_Mo_unrank_60 42 rfl
theorem dc_Mo_unrank_174 : decode cd_Mo_unrank 174 = .ok (.iconst 1, 1) := dq_at (q := (174, .iconst 1, 1)) dm_Mo_unrank_60 43 rfl
theorem dc_Mo_unrank_175 : decode cd_Mo_unrank 175 = .ok (.if_icmp .ne 9, 3) := dq_at (q := (175, .if_icmp .ne 9, 3)) dm_Mo_unrank_60 44 rfl
theorem dc_Mo_unrank_178 : decode cd_Mo_unrank 178 = .ok (.iload 8, 2) := dq_at (q := (178, .iload 8, 2)) dm_Mo_unrank_60 45 rfl
theorem dc_Mo_unrank_180 : decode cd_Mo_unrank 180 = .ok (.ineg, 1) := dq_at (q := (180, .ineg, 1)) dm_Mo_unrank_60 46 rfl
theorem dc_Mo_unrank_181 : decode cd_Mo_unrank 181 = .ok (.goto 5, 3) := dq_at (q := (181, .goto 5, 3)) dm_Mo_unrank_60 47 rfl
theorem dc_Mo_unrank_184 : decode cd_Mo_unrank 184 = .ok (.iload 8, 2) := dq_at (q := (184, .iload 8, 2)) dm_Mo_unrank_60 48 rfl
theorem dc_Mo_unrank_186 : decode cd_Mo_unrank 186 = .ok (.iastore, 1) := dq_at (q := (186, .iastore, 1)) dm_Mo_unrank_60 49 rfl
theorem dc_Mo_unrank_187 : decode cd_Mo_unrank 187 = .ok (.iinc 6 1, 3) := dq_at (q := (187, .iinc 6 1, 3)) dm_Mo_unrank_60 50 rfl
theorem dc_Mo_unrank_190 : decode cd_Mo_unrank 190 = .ok (.goto (-149), 3) := dq_at (q := (190, .goto (-149), 3)) dm_Mo_unrank_60 51 rfl
theorem dc_Mo_unrank_193 : decode cd_Mo_unrank 193 = .ok (.return_, 1) := dq_at (q := (193, .return_, 1)) dm_Mo_unrank_60 52 rfl
def dl_Mo_orderCount_0 : List (Nat × Instr × Nat) := [(0, .iconst 1, 1), (1, .istore_n 1, 1), (2, .iconst 1, 1), (3, .istore_n 2, 1), (4, .iload_n 2, 1), (5, .aload_n 0, 1), (6, .getfield 7, 3), (9, .if_icmp .gt 15, 3), (12, .iload_n 1, 1), (13, .iconst 2, 1), (14, .imul, 1), (15, .iload_n 2, 1), (16, .imul, 1), (17, .istore_n 1, 1), (18, .iinc 2 1, 3), (21, .goto (-17), 3), (24, .iload_n 1, 1), (25, .ireturn, 1)]
theorem dm_Mo_orderCount_0 : dl_Mo_orderCount_0.all (fun q => decide (decode cd_Mo_orderCount q.1 = .ok (q.2.1, q.2.2))) = true := by decide +kernel
theorem dc_Mo_orderCount_0 : decode cd_Mo_orderCount 0 = .ok (.iconst 1, 1) := dq_at (q := (0, .iconst 1, 1)) dm_Mo_orderCount_0 0 rfl
theorem dc_Mo_orderCount_1 : decode cd_Mo_orderCount 1 = .ok (.istore_n 1, 1) := dq_at (q := (1, .istore_n 1, 1)) dm_Mo_orderCount_0 1 rfl
theorem dc_Mo_orderCount_2 : decode cd_Mo_orderCount 2 = .ok (.iconst 1, 1) := dq_at (q := (2, .iconst 1, 1)) dm_Mo_orderCount_0 2 rfl
theorem dc_Mo_orderCount_3 : decode cd_Mo_orderCount 3 = .ok (.istore_n 2, 1) := dq_at (q := (3, .istore_n 2, 1)) dm_Mo_orderCount_0 3 rfl
theorem dc_Mo_orderCount_4 : decode cd_Mo_orderCount 4 = .ok (.iload_n 2, 1) := dq_at (q := (4, .iload_n 2, 1)) dm_Mo_orderCount_0 4 rfl
theorem dc_Mo_orderCount_5 : decode cd_Mo_orderCount 5 = .ok (.aload_n 0, 1) := dq_at (q := (5, .aload_n 0, 1)) dm_Mo_orderCount_0 5 rfl
theorem dc_Mo_orderCount_6 : decode cd_Mo_orderCount 6 = .ok (.getfield 7, 3) := dq_at (q := (6, .getfield 7, 3)) dm_Mo_orderCount_0 6 rfl
theorem dc_Mo_orderCount_9 : decode cd_Mo_orderCount 9 = .ok (.if_icmp .gt 15, 3) := dq_at (q := (9, .if_icmp .gt 15, 3)) dm_Mo_orderCount_0 7 rfl
theorem dc_Mo_orderCount_12 : decode cd_Mo_orderCount 12 = .ok (.iload_n 1, 1) := dq_at (q := (12, .iload_n 1, 1)) dm_Mo_orderCount_0 8 rfl
theorem dc_Mo_orderCount_13 : decode cd_Mo_orderCount 13 = .ok (.iconst 2, 1) := dq_at (q := (13, .iconst 2, 1)) dm_Mo_orderCount_0 9 rfl
theorem dc_Mo_orderCount_14 : decode cd_Mo_orderCount 14 = .ok (.imul, 1) := dq_at (q := (14, .imul, 1)) dm_Mo_orderCount_0 10 rfl
theorem dc_Mo_orderCount_15 : decode cd_Mo_orderCount 15 = .ok (.iload_n 2, 1) := dq_at (q := (15, .iload_n 2, 1)) dm_Mo_orderCount_0 11 rfl
theorem dc_Mo_orderCount_16 : decode cd_Mo_orderCount 16 = .ok (.imul, 1) := dq_at (q := (16, .imul, 1)) dm_Mo_orderCount_0 12 rfl
theorem dc_Mo_orderCount_17 : decode cd_Mo_orderCount 17 = .ok (.istore_n 1, 1) := dq_at (q := (17, .istore_n 1, 1)) dm_Mo_orderCount_0 13 rfl
theorem dc_Mo_orderCount_18 : decode cd_Mo_orderCount 18 = .ok (.iinc 2 1, 3) := dq_at (q := (18, .iinc 2 1, 3)) dm_Mo_orderCount_0 14 rfl
theorem dc_Mo_orderCount_21 : decode cd_Mo_orderCount 21 = .ok (.goto (-17), 3) := dq_at (q := (21, .goto (-17), 3)) dm_Mo_orderCount_0 15 rfl
theorem dc_Mo_orderCount_24 : decode cd_Mo_orderCount 24 = .ok (.iload_n 1, 1) := dq_at (q := (24, .iload_n 1, 1)) dm_Mo_orderCount_0 16 rfl
theorem dc_Mo_orderCount_25 : decode cd_Mo_orderCount 25 = .ok (.ireturn, 1) := dq_at (q := (25, .ireturn, 1)) dm_Mo_orderCount_0 17 rfl
def dl_Mo_makeTable_0 : List (Nat × Instr × Nat) := [(0, .aload_n 0, 1), (1, .iconst 0, 1), (2, .putfield 95, 3), (5, .iconst 1, 1), (6, .istore_n 1, 1), (7, .iconst 1, 1), (8, .istore_n 2, 1), (9, .iload_n 2, 1), (10, .aload_n 0, 1), (11, .getfield 7, 3), (14, .if_icmp .ge 25, 3), (17, .iload_n 1, 1), (18, .iconst 2, 1), (19, .imul, 1), (20, .iload_n 2, 1), (21, .imul, 1), (22, .istore_n 1, 1), (23, .aload_n 0, 1), (24, .aload_n 0, 1), (25, .getfield 95, 3), (28, .iload_n 1, 1), (29, .iadd, 1), (30, .putfield 95, 3), (33, .iinc 2 1, 3), (36, .goto (-27), 3), (39, .aload_n 0, 1), (40, .getfield 29, 3), (43, .aload_n 0, 1), (44, .getfield 7, 3), (47, .baload, 1), (48, .ifCond .eq 4, 3), (51, .return_, 1), (52, .aload_n 0, 1), (53, .getfield 29, 3), (56, .aload_n 0, 1), (57, .getfield 7, 3), (60, .iconst 1, 1), (61, .bastore, 1), (62, .aload_n 0, 1), (63, .invokevirtual 98, 3), (66, .istore_n 1, 1), (67, .iconst 0, 1), (68, .istore_n 2, 1), (69, .iload_n 2, 1), (70, .iload_n 1, 1), (71, .if_icmp .ge 21, 3), (74, .aload_n 0, 1), (75, .getfield 34, 3), (78, .aload_n 0, 1), (79, .getfield 95, 3), (82, .iload_n 2, 1), (83, .iadd, 1), (84, .iconst (-1), 1), (85, .iastore, 1), (86, .iinc 2 1, 3), (89, .goto (-20), 3), (92, .aload_n 0, 1), (93, .getfield 34, 3), (96, .aload_n 0, 1), (97, .getfield 95, 3)]
theorem dm_Mo_makeTable_0 : dl_Mo_makeTable_0.all (fun q => decide (decode cd_Mo_makeTable q.1 = .ok (q.2.1, q.2.2))) = true := by decide +kernel
theorem dc_Mo_makeTable_0 : decode cd_Mo_makeTable 0 = .ok (.aload_n 0, 1) := dq_at (q := (0, .aload_n 0, 1)) dm_Mo_makeTable_0 0 rfl
theorem dc_Mo_makeTable_1 : decode cd_Mo_makeTable 1 = .ok (.iconst 0, 1) := dq_at (q := (1, .iconst 0, 1)) dm_Mo_makeTable_0 1 rfl
theorem dc_Mo_makeTable_2 : decode cd_Mo_makeTable 2 = .ok (.putfield 95, 3) := dq_at (q := (2, .putfield 95, 3)) dm_Mo_makeTable_0 2 rfl
theorem dc_Mo_makeTable_5 : decode cd_Mo_makeTable 5 = .ok (.iconst 1, 1) := dq_at (q := (5, .iconst 1, 1)) dm_Mo_makeTable_0 3 rfl
theorem dc_Mo_makeTable_6 : decode cd_Mo_makeTable 6 = .ok (.istore_n 1, 1) := dq_at (q := (6, .istore_n 1, 1)) dm_Mo_makeTable_0 4 rfl
theorem dc_Mo_makeTable_7 : decode cd_Mo_makeTable 7 = .ok (.iconst 1, 1) := dq_at (q := (7, .iconst 1, 1)) dm_Mo_makeTable_0 5 rfl
theorem dc_Mo_makeTable_8 : decode cd_Mo_makeTable 8 = .ok (.istore_n 2, 1) := dq_at (q := (8, .istore_n 2, 1)) dm_Mo_makeTable_0 6 rfl
theorem dc_Mo_makeTable_9 : decode cd_Mo_makeTable 9 = .ok (.iload_n 2, 1) := dq_at (q := (9, .iload_n 2, 1)) dm_Mo_makeTable_0 7 rfl
theorem dc_Mo_makeTable_10 : decode cd_Mo_makeTable 10 = .ok (.aload_n 0, 1) := dq_at (q := (10, .aload_n 0, 1)) dm_Mo_makeTable_0 8 rfl
theorem dc_Mo_makeTable_11 : decode cd_Mo_makeTable 11 = .ok (.getfield 7, 3) := dq_at (q := (11, .getfield 7, 3)) dm_Mo_makeTable_0 9 rfl
theorem dc_Mo_makeTable_14 : decode cd_Mo_makeTable 14 = .ok (.if_icmp .ge 25, 3) := dq_at (q := (14, .if_icmp .ge 25, 3)) dm_Mo_makeTable_0 10 rfl
theorem dc_Mo_makeTable_17 : decode cd_Mo_makeTable 17 = .ok (.iload_n 1, 1) := dq_at (q := (17, .iload_n 1, 1)) dm_Mo_makeTable_0 11 rfl
theorem dc_Mo_makeTable_18 : decode cd_Mo_makeTable 18 = .ok (.iconst 2, 1) := dq_at (q := (18, .iconst 2, 1)) dm_Mo_makeTable_0 12 rfl
theorem dc_Mo_makeTable_19 : decode cd_Mo_makeTable 19 = .ok (.imul, 1) := dq_at (q := (19, .imul, 1)) dm_Mo_makeTable_0 13 rfl
theorem dc_Mo_makeTable_20 : decode cd_Mo_makeTable 20 = .ok (.iload_n 2, 1) := dq_at (q := (20, .iload_n 2, 1)) dm_Mo_makeTable_0 14 rfl
theorem dc_Mo_makeTable_21 : decode cd_Mo_makeTable 21 = .ok (.imul, 1) := dq_at (q := (21, .imul, 1)) dm_Mo_makeTable_0 15 rfl
theorem dc_Mo_makeTable_22 : decode cd_Mo_makeTable 22 = .ok (.istore_n 1, 1) := dq_at (q := (22, .istore_n 1, 1)) dm_Mo_makeTable_0 16 rfl
theorem dc_Mo_makeTable_23 : decode cd_Mo_makeTable 23 = .ok (.aload_n 0, 1) := dq_at (q := (23, .aload_n 0, 1)) dm_Mo_makeTable_0 17 rfl
theorem dc_Mo_makeTable_24 : decode cd_Mo_makeTable 24 = .ok (.aload_n 0, 1) := dq_at (q := (24, .aload_n 0, 1)) dm_Mo_makeTable_0 18 rfl
theorem dc_Mo_makeTable_25 : decode cd_Mo_makeTable 25 = .ok (.getfield 95, 3) := dq_at (q := (25, .getfield 95, 3)) dm_Mo_makeTable_0 19 rfl
theorem dc_Mo_makeTable_28 : decode cd_Mo_makeTable 28 = .ok (.iload_n 1, 1) := dq_at (q := (28, .iload_n 1, 1)) dm_Mo_makeTable_0 20 rfl
theorem dc_Mo_makeTable_29 : decode cd_Mo_makeTable 29 = .ok (.iadd, 1) := dq_at (q := (29, .iadd, 1)) dm_Mo_makeTable_0 21 rfl
theorem dc_Mo_makeTable_30 : decode cd_Mo_makeTable 30 = .ok (.putfield 95, 3) := dq_at (q := (30, .putfield 95, 3)) dm_Mo_makeTable_0 22 rfl
theorem dc_Mo_makeTable_33 : decode cd_Mo_makeTable 33 = .ok (.iinc 2 1, 3) := dq_at (q := (33, .iinc 2 1, 3)) dm_Mo_makeTable_0 23 rfl
theorem dc_Mo_makeTable_36 : decode cd_Mo_makeTable 36 = .ok (.goto (-27), 3) := dq_at (q := (36, .goto (-27), 3)) dm_Mo_makeTable_0 24 rfl
theorem dc_Mo_makeTable_39 : decode cd_Mo_makeTable 39 = .ok (.aload_n 0, 1) := dq_at (q := (39, .aload_n 0, 1)) dm_Mo_makeTable_0 25 rfl
theorem dc_Mo_makeTable_40 : decode cd_Mo_makeTable 40 = .ok (.getfield 29, 3) := dq_at (q := (40, .getfield 29, 3)) dm_Mo_makeTable_0 26 rfl
theorem dc_Mo_makeTable_43 : decode cd_Mo_makeTable 43 = .ok (.aload_n 0, 1) := dq_at (q := (43, .aload_n 0, 1)) dm_Mo_makeTable_0 27 rfl
theorem dc_Mo_makeTable_44 : decode cd_Mo_makeTable 44 = .ok (.getfield 7, 3) := dq_at (q := (44, .getfield 7, 3)) dm_Mo_makeTable_0 28 rfl
theorem dc_Mo_makeTable_47 : decode cd_Mo_makeTable 47 = .ok (.baload, 1) := dq_at (q := (47, .baload, 1)) dm_Mo_makeTable_0 29 rfl
theorem dc_Mo_makeTable_48 : decode cd_Mo_makeTable 48 = .ok (.ifCond .eq 4, 3) := dq_at (q := (48, .ifCond .eq 4, 3)) dm_Mo_makeTable_0 30 rfl
theorem dc_Mo_makeTable_51 : decode cd_Mo_makeTable 51 = .ok (.return_, 1) := dq_at (q := (51, .return_, 1)) dm_Mo_makeTable_0 31 rfl
theorem dc_Mo_makeTable_52 : decode cd_Mo_makeTable 52 = .ok (.aload_n 0, 1) := dq_at (q := (52, .aload_n 0, 1)) dm_Mo_makeTable_0 32 rfl
theorem dc_Mo_makeTable_53 : decode cd_Mo_makeTable 53 = .ok (.getfield 29, 3) := dq_at (q := (53, .getfield 29, 3)) dm_Mo_makeTable_0 33 rfl
theorem dc_Mo_makeTable_56 : decode cd_Mo_makeTable 56 = .ok (.aload_n 0, 1) := dq_at (q := (56, .aload_n 0, 1)) dm_Mo_makeTable_0 34 rfl
theorem dc_Mo_makeTable_57 : decode cd_Mo_makeTable 57 = .ok (.getfield 7, 3) := dq_at (q := (57, .getfield 7, 3)) dm_Mo_makeTable_0 35 rfl
theorem dc_Mo_makeTable_60 : decode cd_Mo_makeTable 60 = .ok (.iconst 1, 1) := dq_at (q := (60, .iconst 1, 1)) dm_Mo_makeTable_0 36 rfl
theorem dc_Mo_makeTable_61 : decode cd_Mo_makeTable 61 = .ok (.bastore, 1) := dq_at (q := (61, .bastore, 1)) dm_Mo_makeTable_0 37 rfl
theorem dc_Mo_makeTable_62 : decode cd_Mo_makeTable 62 = .ok (.aload_n 0, 1) := dq_at (q := (62, .aload_n 0, 1)) dm_Mo_makeTable_0 38 rfl
theorem dc_Mo_makeTable_63 : decode cd_Mo_makeTable 63 = .ok (.invokevirtual 98, 3) := dq_at (q := (63, .invokevirtual 98, 3)) dm_Mo_makeTable_0 39 rfl
theorem dc_Mo_makeTable_66 : decode cd_Mo_makeTable 66 = .ok (.istore_n 1, 1) := dq_at (q := (66, .istore_n 1, 1)) dm_Mo_makeTable_0 40 rfl
theorem dc_Mo_makeTable_67 : decode cd_Mo_makeTable 67 = .ok (.iconst 0, 1) := dq_at (q := (67, .iconst 0, 1)) dm_Mo_makeTable_0 41 rfl
theorem dc_Mo_makeTable_68 : decode cd_Mo_makeTable 68 = .ok (.istore_n 2, 1) := dq_at (q := (68, .istore_n 2, 1)) dm_Mo_makeTable_0 42 rfl
theorem dc_Mo_makeTable_69 : decode cd_Mo_makeTable 69 = .ok (.iload_n 2, 1) := dq_at (q := (69, .iload_n 2, 1)) dm_Mo_makeTable_0 43 rfl
theorem dc_Mo_makeTable_70 : decode cd_Mo_makeTable 70 = .ok (.iload_n 1, 1) := dq_at (q := (70, .iload_n 1, 1)) dm_Mo_makeTable_0 44 rfl
theorem dc_Mo_makeTable_71 : decode cd_Mo_makeTable 71 = .ok (.if_icmp .ge 21, 3) := dq_at (q := (71, .if_icmp .ge 21, 3)) dm_Mo_makeTable_0 45 rfl
theorem dc_Mo_makeTable_74 : decode cd_Mo_makeTable 74 = .ok (.aload_n 0, 1) := dq_at (q := (74, .aload_n 0, 1)) dm_Mo_makeTable_0 46 rfl
theorem dc_Mo_makeTable_75 : decode cd_Mo_makeTable 75 = .ok (.getfield 34, 3) := dq_at (q := (75, .getfield 34, 3)) dm_Mo_makeTable_0 47 rfl
theorem dc_Mo_makeTable_78 : decode cd_Mo_makeTable 78 = .ok (.aload_n 0, 1) := dq_at (q := (78, .aload_n 0, 1)) dm_Mo_makeTable_0 48 rfl
theorem dc_Mo_makeTable_79 : decode cd_Mo_makeTable 79 = .ok (.getfield 95, 3) := dq_at (q := (79, .getfield 95, 3)) dm_Mo_makeTable_0 49 rfl
theorem dc_Mo_makeTable_82 : decode cd_Mo_makeTable 82 = .ok (.iload_n 2, 1) := dq_at (q := (82, .iload_n 2, 1)) dm_Mo_makeTable_0 50 rfl
theorem dc_Mo_makeTable_83 : decode cd_Mo_makeTable 83 = .ok (.iadd, 1) := dq_at (q := (83, .iadd, 1)) dm_Mo_makeTable_0 51 rfl
theorem dc_Mo_makeTable_84 : decode cd_Mo_makeTable 84 = .ok (.iconst (-1), 1) := dq_at (q := (84, .iconst (-1), 1)) dm_Mo_makeTable_0 52 rfl
theorem dc_Mo_makeTable_85 : decode cd_Mo_makeTable 85 = .ok (.iastore, 1) := dq_at (q := (85, .iastore, 1)) dm_Mo_makeTable_0 53 rfl
theorem dc_Mo_makeTable_86 : decode cd_Mo_makeTable 86 = .ok (.iinc 2 1, 3) := dq_at (q := (86, .iinc 2 1, 3)) dm_Mo_makeTable_0 54 rfl
theorem dc_Mo_makeTable_89 : decode cd_Mo_makeTable 89 = .ok (.goto (-20), 3) := dq_at (q := (89, .goto (-20), 3)) dm_Mo_makeTable_0 55 rfl
theorem dc_Mo_makeTable_92 : decode cd_Mo_makeTable 92 = .ok (.aload_n 0, 1) := dq_at (q := (92, .aload_n 0, 1)) dm_Mo_makeTable_0 56 rfl
theorem dc_Mo_makeTable_93 : decode cd_Mo_makeTable 93 = .ok (.getfield 34, 3) := dq_at (q := (93, .getfield 34, 3)) dm_Mo_makeTable_0 57 rfl
theorem dc_Mo_makeTable_96 : decode cd_Mo_makeTable 96 = .ok (.aload_n 0, 1) := dq_at (q := (96, .aload_n 0, 1)) dm_Mo_makeTable_0 58 rfl
theorem dc_Mo_makeTable_97 : decode cd_Mo_makeTable 97 = .ok (.getfield 95, 3) := dq_at (q := (97, .getfield 95, 3)) dm_Mo_makeTable_0 59 rfl
def dl_Mo_makeTable_60 : List (Nat × Instr × Nat) := [(100, .iconst 0, 1), (101, .iastore, 1), (102, .aload_n 0, 1), (103, .getfield 7, 3), (106, .iconst 4, 1), (107, .if_icmp .gt 13, 3), (110, .aload_n 0, 1), (111, .getfield 41, 3), (114, .aload_n 0, 1), (115, .getfield 95, 3), (118, .lconst 1, 1), (119, .lastore, 1), (120, .aload_n 0, 1), (121, .getfield 38, 3), (124, .iconst 0, 1), (125, .iconst 0, 1), (126, .iastore, 1), (127, .aload_n 0, 1), (128, .iconst 1, 1), (129, .putfield 102, 3), (132, .iconst 0, 1), (133, .istore_n 2, 1), (134, .iload_n 2, 1), (135, .aload_n 0, 1), (136, .getfield 102, 3), (139, .if_icmp .ge 14, 3), (142, .aload_n 0, 1), (143, .iload_n 2, 1), (144, .invokevirtual 105, 3), (147, .iinc 2 1, 3), (150, .goto (-16), 3), (153, .return_, 1)]
theorem dm_Mo_makeTable_60 : dl_Mo_makeTable_60.all (fun q => decide (decode cd_Mo_makeTable q.1 = .ok (q.2.1, q.2.2))) = true := by decide +kernel
theorem dc_Mo_makeTable_100 : decode cd_Mo_makeTable 100 = .ok (.iconst 0, 1) := dq_at (q := (100, .iconst 0, 1)) dm_Mo_makeTable_60 0 rfl
theorem dc_Mo_makeTable_101 : decode cd_Mo_makeTable 101 = .ok (.iastore, 1) := dq_at (q := (101, .iastore, 1)) dm_Mo_makeTable_60 1 rfl
theorem dc_Mo_makeTable_102 : decode cd_Mo_makeTable 102 = .ok (.aload_n 0, 1) := dq_at (q := (102, .aload_n 0, 1)) dm_Mo_makeTable_60 2 rfl
theorem dc_Mo_makeTable_103 : decode cd_Mo_makeTable 103 = .ok (.getfield 7, 3) := dq_at (q := (103, .getfield 7, 3)) dm_Mo_makeTable_60 3 rfl
theorem dc_Mo_makeTable_106 : decode cd_Mo_makeTable 106 = .ok (.iconst 4, 1) := dq_at (q := (106, .iconst 4, 1)) dm_Mo_makeTable_60 4 rfl
theorem dc_Mo_makeTable_107 : decode cd_Mo_makeTable 107 = .ok (.if_icmp .gt 13, 3) := dq_at (q := (107, .if_icmp .gt 13, 3)) dm_Mo_makeTable_60 5 rfl
theorem dc_Mo_makeTable_110 : decode cd_Mo_makeTable 110 = .ok (.aload_n 0, 1) := dq_at (q := (110, .aload_n 0, 1)) dm_Mo_makeTable_60 6 rfl
theorem dc_Mo_makeTable_111 : decode cd_Mo_makeTable 111 = .ok (.getfield 41, 3) := dq_at (q := (111, .getfield 41, 3)) dm_Mo_makeTable_60 7 rfl
theorem dc_Mo_makeTable_114 : decode cd_Mo_makeTable 114 = .ok (.aload_n 0, 1) := dq_at (q := (114, .aload_n 0, 1)) dm_Mo_makeTable_60 8 rfl
theorem dc_Mo_makeTable_115 : decode cd_Mo_makeTable 115 = .ok (.getfield 95, 3) := dq_at (q := (115, .getfield 95, 3)) dm_Mo_makeTable_60 9 rfl
theorem dc_Mo_makeTable_118 : decode cd_Mo_makeTable 118 = .ok (.lconst 1, 1) := dq_at (q := (118, .lconst 1, 1)) dm_Mo_makeTable_60 10 rfl
theorem dc_Mo_makeTable_119 : decode cd_Mo_makeTable 119 = .ok (.lastore, 1) := dq_at (q := (119, .lastore, 1)) dm_Mo_makeTable_60 11 rfl
theorem dc_Mo_makeTable_120 : decode cd_Mo_makeTable 120 = .ok (.aload_n 0, 1) := dq_at (q := (120, .aload_n 0, 1)) dm_Mo_makeTable_60 12 rfl
theorem dc_Mo_makeTable_121 : decode cd_Mo_makeTable 121 = .ok (.getfield 38, 3) := dq_at (q := (121, .getfield 38, 3)) dm_Mo_makeTable_60 13 rfl
theorem dc_Mo_makeTable_124 : decode cd_Mo_makeTable 124 = .ok (.iconst 0, 1) := dq_at (q := (124, .iconst 0, 1)) dm_Mo_makeTable_60 14 rfl
theorem dc_Mo_makeTable_125 : decode cd_Mo_makeTable 125 = .ok (.iconst 0, 1) := dq_at (q := (125, .iconst 0, 1)) dm_Mo_makeTable_60 15 rfl
theorem dc_Mo_makeTable_126 : decode cd_Mo_makeTable 126 = .ok (.iastore, 1) := dq_at (q := (126, .iastore, 1)) dm_Mo_makeTable_60 16 rfl
theorem dc_Mo_makeTable_127 : decode cd_Mo_makeTable 127 = .ok (.aload_n 0, 1) := dq_at (q := (127, .aload_n 0, 1)) dm_Mo_makeTable_60 17 rfl
theorem dc_Mo_makeTable_128 : decode cd_Mo_makeTable 128 = .ok (.iconst 1, 1) := dq_at (q := (128, .iconst 1, 1)) dm_Mo_makeTable_60 18 rfl
theorem dc_Mo_makeTable_129 : decode cd_Mo_makeTable 129 = .ok (.putfield 102, 3) := dq_at (q := (129, .putfield 102, 3)) dm_Mo_makeTable_60 19 rfl
theorem dc_Mo_makeTable_132 : decode cd_Mo_makeTable 132 = .ok (.iconst 0, 1) := dq_at (q := (132, .iconst 0, 1)) dm_Mo_makeTable_60 20 rfl
theorem dc_Mo_makeTable_133 : decode cd_Mo_makeTable 133 = .ok (.istore_n 2, 1) := dq_at (q := (133, .istore_n 2, 1)) dm_Mo_makeTable_60 21 rfl
theorem dc_Mo_makeTable_134 : decode cd_Mo_makeTable 134 = .ok (.iload_n 2, 1) := dq_at (q := (134, .iload_n 2, 1)) dm_Mo_makeTable_60 22 rfl
theorem dc_Mo_makeTable_135 : decode cd_Mo_makeTable 135 = .ok (.aload_n 0, 1) := dq_at (q := (135, .aload_n 0, 1)) dm_Mo_makeTable_60 23 rfl
theorem dc_Mo_makeTable_136 : decode cd_Mo_makeTable 136 = .ok (.getfield 102, 3) := dq_at (q := (136, .getfield 102, 3)) dm_Mo_makeTable_60 24 rfl
theorem dc_Mo_makeTable_139 : decode cd_Mo_makeTable 139 = .ok (.if_icmp .ge 14, 3) := dq_at (q := (139, .if_icmp .ge 14, 3)) dm_Mo_makeTable_60 25 rfl
theorem dc_Mo_makeTable_142 : decode cd_Mo_makeTable 142 = .ok (.aload_n 0, 1) := dq_at (q := (142, .aload_n 0, 1)) dm_Mo_makeTable_60 26 rfl
theorem dc_Mo_makeTable_143 : decode cd_Mo_makeTable 143 = .ok (.iload_n 2, 1) := dq_at (q := (143, .iload_n 2, 1)) dm_Mo_makeTable_60 27 rfl
theorem dc_Mo_makeTable_144 : decode cd_Mo_makeTable 144 = .ok (.invokevirtual 105, 3) := dq_at (q := (144, .invokevirtual 105, 3)) dm_Mo_makeTable_60 28 rfl
theorem dc_Mo_makeTable_147 : decode cd_Mo_makeTable 147 = .ok (.iinc 2 1, 3) := dq_at (q := (147, .iinc 2 1, 3)) dm_Mo_makeTable_60 29 rfl
theorem dc_Mo_makeTable_150 : decode cd_Mo_makeTable 150 = .ok (.goto (-16), 3) := dq_at (q := (150, .goto (-16), 3)) dm_Mo_makeTable_60 30 rfl
theorem dc_Mo_makeTable_153 : decode cd_Mo_makeTable 153 = .ok (.return_, 1) := dq_at (q := (153, .return_, 1)) dm_Mo_makeTable_60 31 rfl
def dl_Mo_spread_0 : List (Nat × Instr × Nat) := [(0, .aload_n 0, 1), (1, .getfield 38, 3), (4, .iload_n 1, 1), (5, .iaload, 1), (6, .istore_n 2, 1), (7, .aload_n 0, 1), (8, .iload_n 2, 1), (9, .aload_n 0, 1), (10, .getfield 48, 3), (13, .invokevirtual 109, 3), (16, .iconst 0, 1), (17, .istore_n 3, 1), (18, .iload_n 3, 1), (19, .aload_n 0, 1), (20, .getfield 7, 3), (23, .if_icmp .ge 192, 3), (26, .iload_n 3, 1), (27, .istore 4, 2), (29, .iload 4, 2), (31, .aload_n 0, 1), (32, .getfield 7, 3), (35, .if_icmp .ge 174, 3), (38, .aload_n 0, 1), (39, .getfield 48, 3), (42, .iconst 0, 1), (43, .iload_n 3, 1), (44, .iload 4, 2), (46, .invokestatic 91, 3), (49, .aload_n 0, 1), (50, .aload_n 0, 1), (51, .getfield 48, 3), (54, .invokevirtual 113, 3), (57, .istore 5, 2), (59, .aload_n 0, 1), (60, .getfield 48, 3), (63, .iconst 0, 1), (64, .iload_n 3, 1), (65, .iload 4, 2), (67, .invokestatic 91, 3), (70, .aload_n 0, 1), (71, .getfield 34, 3), (74, .aload_n 0, 1), (75, .getfield 95, 3), (78, .iload 5, 2), (80, .iadd, 1), (81, .iaload, 1), (82, .ifCond .ge 49, 3), (85, .aload_n 0, 1), (86, .getfield 34, 3), (89, .aload_n 0, 1), (90, .getfield 95, 3), (93, .iload 5, 2), (95, .iadd, 1), (96, .aload_n 0, 1), (97, .getfield 34, 3), (100, .aload_n 0, 1), (101, .getfield 95, 3), (104, .iload_n 2, 1), (105, .iadd, 1), (106, .iaload, 1)]
theorem dm_Mo_spread_0 : dl_Mo_spread_0.all (fun q => decide (decode cd_Mo_spread q.1 = .ok (q.2.1, q.2.2))) = true := by decide +kernel
theorem dc_Mo_spread_0 : decode cd_Mo_spread 0 = .ok (.aload_n 0, 1) := dq_at (q := (0, .aload_n 0, 1)) dm_Mo_spread_0 0 rfl
theorem dc_Mo_spread_1 : decode cd_Mo_spread 1 = .ok (.getfield 38, 3) := dq_at (q := (1, .getfield 38, 3)) dm_Mo_spread_0 1 rfl
theorem dc_Mo_spread_4 : decode cd_Mo_spread 4 = .ok (.iload_n 1, 1) := dq_at (q := (4, .iload_n 1, 1)) dm_Mo_spread_0 2 rfl
theorem dc_Mo_spread_5 : decode cd_Mo_spread 5 = .ok (.iaload, 1) := dq_at (q := (5, .iaload, 1)) dm_Mo_spread_0 3 rfl
theorem dc_Mo_spread_6 : decode cd_Mo_spread 6 = .ok (.istore_n 2, 1) := dq_at (q := (6, .istore_n 2, 1)) dm_Mo_spread_0 4 rfl
theorem dc_Mo_spread_7 : decode cd_Mo_spread 7 = .ok (.aload_n 0, 1) := dq_at (q := (7, .aload_n 0, 1)) dm_Mo_spread_0 5 rfl
theorem dc_Mo_spread_8 : decode cd_Mo_spread 8 = .ok (.iload_n 2, 1) := dq_at (q := (8, .iload_n 2, 1)) dm_Mo_spread_0 6 rfl
theorem dc_Mo_spread_9 : decode cd_Mo_spread 9 = .ok (.aload_n 0, 1) := dq_at (q := (9, .aload_n 0, 1)) dm_Mo_spread_0 7 rfl
theorem dc_Mo_spread_10 : decode cd_Mo_spread 10 = .ok (.getfield 48, 3) := dq_at (q := (10, .getfield 48, 3)) dm_Mo_spread_0 8 rfl
theorem dc_Mo_spread_13 : decode cd_Mo_spread 13 = .ok (.invokevirtual 109, 3) := dq_at (q := (13, .invokevirtual 109, 3)) dm_Mo_spread_0 9 rfl
theorem dc_Mo_spread_16 : decode cd_Mo_spread 16 = .ok (.iconst 0, 1) := dq_at (q := (16, .iconst 0, 1)) dm_Mo_spread_0 10 rfl
theorem dc_Mo_spread_17 : decode cd_Mo_spread 17 = .ok (.istore_n 3, 1) := dq_at (q := (17, .istore_n 3, 1)) dm_Mo_spread_0 11 rfl
theorem dc_Mo_spread_18 : decode cd_Mo_spread 18 = .ok (.iload_n 3, 1) := dq_at (q := (18, .iload_n 3, 1)) dm_Mo_spread_0 12 rfl
theorem dc_Mo_spread_19 : decode cd_Mo_spread 19 = .ok (.aload_n 0, 1) := dq_at (q := (19, .aload_n 0, 1)) dm_Mo_spread_0 13 rfl
theorem dc_Mo_spread_20 : decode cd_Mo_spread 20 = .ok (.getfield 7, 3) := dq_at (q := (20, .getfield 7, 3)) dm_Mo_spread_0 14 rfl
theorem dc_Mo_spread_23 : decode cd_Mo_spread 23 = .ok (.if_icmp .ge 192, 3) := dq_at (q := (23, .if_icmp .ge 192, 3)) dm_Mo_spread_0 15 rfl
theorem dc_Mo_spread_26 : decode cd_Mo_spread 26 = .ok (.iload_n 3, 1) := dq_at (q := (26, .iload_n 3, 1)) dm_Mo_spread_0 16 rfl
theorem dc_Mo_spread_27 : decode cd_Mo_spread 27 = .ok (.istore 4, 2) := dq_at (q := (27, .istore 4, 2)) dm_Mo_spread_0 17 rfl
theorem dc_Mo_spread_29 : decode cd_Mo_spread 29 = .ok (.iload 4, 2) := dq_at (q := (29, .iload 4, 2)) dm_Mo_spread_0 18 rfl
theorem dc_Mo_spread_31 : decode cd_Mo_spread 31 = .ok (.aload_n 0, 1) := dq_at (q := (31, .aload_n 0, 1)) dm_Mo_spread_0 19 rfl
theorem dc_Mo_spread_32 : decode cd_Mo_spread 32 = .ok (.getfield 7, 3) := dq_at (q := (32, .getfield 7, 3)) dm_Mo_spread_0 20 rfl
theorem dc_Mo_spread_35 : decode cd_Mo_spread 35 = .ok (.if_icmp .ge 174, 3) := dq_at (q := (35, .if_icmp .ge 174, 3)) dm_Mo_spread_0 21 rfl
theorem dc_Mo_spread_38 : decode cd_Mo_spread 38 = .ok (.aload_n 0, 1) := dq_at (q := (38, .aload_n 0, 1)) dm_Mo_spread_0 22 rfl
theorem dc_Mo_spread_39 : decode cd_Mo_spread 39 = .ok (.getfield 48, 3) := dq_at (q := (39, .getfield 48, 3)) dm_Mo_spread_0 23 rfl
theorem dc_Mo_spread_42 : decode cd_Mo_spread 42 = .ok (.iconst 0, 1) := dq_at (q := (42, .iconst 0, 1)) dm_Mo_spread_0 24 rfl
theorem dc_Mo_spread_43 : decode cd_Mo_spread 43 = .ok (.iload_n 3, 1) := dq_at (q := (43, .iload_n 3, 1)) dm_Mo_spread_0 25 rfl
theorem dc_Mo_spread_44 : decode cd_Mo_spread 44 = .ok (.iload 4, 2) := dq_at (q := (44, .iload 4, 2)) dm_Mo_spread_0 26 rfl
theorem dc_Mo_spread_46 : decode cd_Mo_spread 46 = .ok (.invokestatic 91, 3) := dq_at (q := (46, .invokestatic 91, 3)) dm_Mo_spread_0 27 rfl
theorem dc_Mo_spread_49 : decode cd_Mo_spread 49 = .ok (.aload_n 0, 1) := dq_at (q := (49, .aload_n 0, 1)) dm_Mo_spread_0 28 rfl
theorem dc_Mo_spread_50 : decode cd_Mo_spread 50 = .ok (.aload_n 0, 1) := dq_at (q := (50, .aload_n 0, 1)) dm_Mo_spread_0 29 rfl
theorem dc_Mo_spread_51 : decode cd_Mo_spread 51 = .ok (.getfield 48, 3) := dq_at (q := (51, .getfield 48, 3)) dm_Mo_spread_0 30 rfl
theorem dc_Mo_spread_54 : decode cd_Mo_spread 54 = .ok (.invokevirtual 113, 3) := dq_at (q := (54, .invokevirtual 113, 3)) dm_Mo_spread_0 31 rfl
theorem dc_Mo_spread_57 : decode cd_Mo_spread 57 = .ok (.istore 5, 2) := dq_at (q := (57, .istore 5, 2)) dm_Mo_spread_0 32 rfl
theorem dc_Mo_spread_59 : decode cd_Mo_spread 59 = .ok (.aload_n 0, 1) := dq_at (q := (59, .aload_n 0, 1)) dm_Mo_spread_0 33 rfl
theorem dc_Mo_spread_60 : decode cd_Mo_spread 60 = .ok (.getfield 48, 3) := dq_at (q := (60, .getfield 48, 3)) dm_Mo_spread_0 34 rfl
theorem dc_Mo_spread_63 : decode cd_Mo_spread 63 = .ok (.iconst 0, 1) := dq_at (q := (63, .iconst 0, 1)) dm_Mo_spread_0 35 rfl
theorem dc_Mo_spread_64 : decode cd_Mo_spread 64 = .ok (.iload_n 3, 1) := dq_at (q := (64, .iload_n 3, 1)) dm_Mo_spread_0 36 rfl
theorem dc_Mo_spread_65 : decode cd_Mo_spread 65 = .ok (.iload 4, 2) := dq_at (q := (65, .iload 4, 2)) dm_Mo_spread_0 37 rfl
theorem dc_Mo_spread_67 : decode cd_Mo_spread 67 = .ok (.invokestatic 91, 3) := dq_at (q := (67, .invokestatic 91, 3)) dm_Mo_spread_0 38 rfl
theorem dc_Mo_spread_70 : decode cd_Mo_spread 70 = .ok (.aload_n 0, 1) := dq_at (q := (70, .aload_n 0, 1)) dm_Mo_spread_0 39 rfl
theorem dc_Mo_spread_71 : decode cd_Mo_spread 71 = .ok (.getfield 34, 3) := dq_at (q := (71, .getfield 34, 3)) dm_Mo_spread_0 40 rfl
theorem dc_Mo_spread_74 : decode cd_Mo_spread 74 = .ok (.aload_n 0, 1) := dq_at (q := (74, .aload_n 0, 1)) dm_Mo_spread_0 41 rfl
theorem dc_Mo_spread_75 : decode cd_Mo_spread 75 = .ok (.getfield 95, 3) := dq_at (q := (75, .getfield 95, 3)) dm_Mo_spread_0 42 rfl
theorem dc_Mo_spread_78 : decode cd_Mo_spread 78 = .ok (.iload 5, 2) := dq_at (q := (78, .iload 5, 2)) dm_Mo_spread_0 43 rfl
theorem dc_Mo_spread_80 : decode cd_Mo_spread 80 = .ok (.iadd, 1) := dq_at (q := (80, .iadd, 1)) dm_Mo_spread_0 44 rfl
theorem dc_Mo_spread_81 : decode cd_Mo_spread 81 = .ok (.iaload, 1) := dq_at (q := (81, .iaload, 1)) dm_Mo_spread_0 45 rfl
theorem dc_Mo_spread_82 : decode cd_Mo_spread 82 = .ok (.ifCond .ge 49, 3) := dq_at (q := (82, .ifCond .ge 49, 3)) dm_Mo_spread_0 46 rfl
theorem dc_Mo_spread_85 : decode cd_Mo_spread 85 = .ok (.aload_n 0, 1) := dq_at (q := (85, .aload_n 0, 1)) dm_Mo_spread_0 47 rfl
theorem dc_Mo_spread_86 : decode cd_Mo_spread 86 = .ok (.getfield 34, 3) := dq_at (q := (86, .getfield 34, 3)) dm_Mo_spread_0 48 rfl
theorem dc_Mo_spread_89 : decode cd_Mo_spread 89 = .ok (.aload_n 0, 1) := dq_at (q := (89, .aload_n 0, 1)) dm_Mo_spread_0 49 rfl
theorem dc_Mo_spread_90 : decode cd_Mo_spread 90 = .ok (.getfield 95, 3) := dq_at (q := (90, .getfield 95, 3)) dm_Mo_spread_0 50 rfl
theorem dc_Mo_spread_93 : decode cd_Mo_spread 93 = .ok (.iload 5, 2) := dq_at (q := (93, .iload 5, 2)) dm_Mo_spread_0 51 rfl
theorem dc_Mo_spread_95 : decode cd_Mo_spread 95 = .ok (.iadd, 1) := dq_at (q := (95, .iadd, 1)) dm_Mo_spread_0 52 rfl
theorem dc_Mo_spread_96 : decode cd_Mo_spread 96 = .ok (.aload_n 0, 1) := dq_at (q := (96, .aload_n 0, 1)) dm_Mo_spread_0 53 rfl
theorem dc_Mo_spread_97 : decode cd_Mo_spread 97 = .ok (.getfield 34, 3) := dq_at (q := (97, .getfield 34, 3)) dm_Mo_spread_0 54 rfl
theorem dc_Mo_spread_100 : decode cd_Mo_spread 100 = .ok (.aload_n 0, 1) := dq_at (q := (100, .aload_n 0, 1)) dm_Mo_spread_0 55 rfl
theorem dc_Mo_spread_101 : decode cd_Mo_spread 101 = .ok (.getfield 95, 3) := dq_at (q := (101, .getfield 95, 3)) dm_Mo_spread_0 56 rfl
theorem dc_Mo_spread_104 : decode cd_Mo_spread 104 = .ok (.iload_n 2, 1) := dq_at (q := (104, .iload_n 2, 1)) dm_Mo_spread_0 57 rfl
theorem dc_Mo_spread_105 : decode cd_Mo_spread 105 = .ok (.iadd, 1) := dq_at (q := (105, .iadd, 1)) dm_Mo_spread_0 58 rfl
theorem dc_Mo_spread_106 : decode cd_Mo_spread 106 = .ok (.iaload, 1) := dq_at (q := (106, .iaload, 1)) dm_Mo_spread_0 59 rfl
def dl_Mo_spread_60 : List (Nat × Instr × Nat) := [(107, .iconst 1, 1), (108, .iadd, 1), (109, .iastore, 1), (110, .aload_n 0, 1), (111, .getfield 38, 3), (114, .aload_n 0, 1), (115, .getfield 102, 3), (118, .iload 5, 2), (120, .iastore, 1), (121, .aload_n 0, 1), (122, .dup, 1), (123, .getfield 102, 3), (126, .iconst 1, 1), (127, .iadd, 1), (128, .putfield 102, 3), (131, .aload_n 0, 1), (132, .getfield 7, 3), (135, .iconst 4, 1), (136, .if_icmp .gt 67, 3), (139, .aload_n 0, 1), (140, .getfield 34, 3), (143, .aload_n 0, 1), (144, .getfield 95, 3), (147, .iload 5, 2), (149, .iadd, 1), (150, .iaload, 1), (151, .aload_n 0, 1), (152, .getfield 34, 3), (155, .aload_n 0, 1), (156, .getfield 95, 3), (159, .iload_n 2, 1), (160, .iadd, 1), (161, .iaload, 1), (162, .iconst 1, 1), (163, .iadd, 1), (164, .if_icmp .ne 39, 3), (167, .aload_n 0, 1), (168, .getfield 41, 3), (171, .aload_n 0, 1), (172, .getfield 95, 3), (175, .iload 5, 2), (177, .iadd, 1), (178, .aload_n 0, 1), (179, .getfield 41, 3), (182, .aload_n 0, 1), (183, .getfield 95, 3), (186, .iload 5, 2), (188, .iadd, 1), (189, .laload, 1), (190, .aload_n 0, 1), (191, .getfield 41, 3), (194, .aload_n 0, 1), (195, .getfield 95, 3), (198, .iload_n 2, 1), (199, .iadd, 1), (200, .laload, 1), (201, .ladd, 1), (202, .lastore, 1), (203, .iinc 4 1, 3), (206, .goto (-177), 3)]
theorem dm_Mo_spread_60 : dl_Mo_spread_60.all (fun q => decide (decode cd_Mo_spread q.1 = .ok (q.2.1, q.2.2))) = true := by decide +kernel
theorem dc_Mo_spread_107 : decode cd_Mo_spread 107 = .ok (.iconst 1, 1) := dq_at (q := (107, .iconst 1, 1)) dm_Mo_spread_60 0 rfl
theorem dc_Mo_spread_108 : decode cd_Mo_spread 108 = .ok (.iadd, 1) := dq_at (q := (108, .iadd, 1)) dm_Mo_spread_60 1 rfl
theorem dc_Mo_spread_109 : decode cd_Mo_spread 109 = .ok (.iastore, 1) := dq_at (q := (109, .iastore, 1)) dm_Mo_spread_60 2 rfl
theorem dc_Mo_spread_110 : decode cd_Mo_spread 110 = .ok (.aload_n 0, 1) := dq_at (q := (110, .aload_n 0, 1)) dm_Mo_spread_60 3 rfl
theorem dc_Mo_spread_111 : decode cd_Mo_spread 111 = .ok (.getfield 38, 3) := dq_at (q := (111, .getfield 38, 3)) dm_Mo_spread_60 4 rfl
theorem dc_Mo_spread_114 : decode cd_Mo_spread 114 = .ok (.aload_n 0, 1) := dq_at (q := (114, .aload_n 0, 1)) dm_Mo_spread_60 5 rfl
theorem dc_Mo_spread_115 : decode cd_Mo_spread 115 = .ok (.getfield 102, 3) := dq_at (q := (115, .getfield 102, 3)) dm_Mo_spread_60 6 rfl
theorem dc_Mo_spread_118 : decode cd_Mo_spread 118 = .ok (.iload 5, 2) := dq_at (q := (118, .iload 5, 2)) dm_Mo_spread_60 7 rfl
theorem dc_Mo_spread_120 : decode cd_Mo_spread 120 = .ok (.iastore, 1) := dq_at (q := (120, .iastore, 1)) dm_Mo_spread_60 8 rfl
theorem dc_Mo_spread_121 : decode cd_Mo_spread 121 = .ok (.aload_n 0, 1) := dq_at (q := (121, .aload_n 0, 1)) dm_Mo_spread_60 9 rfl
theorem dc_Mo_spread_122 : decode cd_Mo_spread 122 = .ok (.dup, 1) := dq_at (q := (122, .dup, 1)) dm_Mo_spread_60 10 rfl
theorem dc_Mo_spread_123 : decode cd_Mo_spread 123 = .ok (.getfield 102, 3) := dq_at (q := (123, .getfield 102, 3)) dm_Mo_spread_60 11 rfl
theorem dc_Mo_spread_126 : decode cd_Mo_spread 126 = .ok (.iconst 1, 1) := dq_at (q := (126, .iconst 1, 1)) dm_Mo_spread_60 12 rfl
theorem dc_Mo_spread_127 : decode cd_Mo_spread 127 = .ok (.iadd, 1) := dq_at (q := (127, .iadd, 1)) dm_Mo_spread_60 13 rfl
theorem dc_Mo_spread_128 : decode cd_Mo_spread 128 = .ok (.putfield 102, 3) := dq_at (q := (128, .putfield 102, 3)) dm_Mo_spread_60 14 rfl
theorem dc_Mo_spread_131 : decode cd_Mo_spread 131 = .ok (.aload_n 0, 1) := dq_at (q := (131, .aload_n 0, 1)) dm_Mo_spread_60 15 rfl
theorem dc_Mo_spread_132 : decode cd_Mo_spread 132 = .ok (.getfield 7, 3) := dq_at (q := (132, .getfield 7, 3)) dm_Mo_spread_60 16 rfl
theorem dc_Mo_spread_135 : decode cd_Mo_spread 135 = .ok (.iconst 4, 1) := dq_at (q := (135, .iconst 4, 1)) dm_Mo_spread_60 17 rfl
theorem dc_Mo_spread_136 : decode cd_Mo_spread 136 = .ok (.if_icmp .gt 67, 3) := dq_at (q := (136, .if_icmp .gt 67, 3)) dm_Mo_spread_60 18 rfl
theorem dc_Mo_spread_139 : decode cd_Mo_spread 139 = .ok (.aload_n 0, 1) := dq_at (q := (139, .aload_n 0, 1)) dm_Mo_spread_60 19 rfl
theorem dc_Mo_spread_140 : decode cd_Mo_spread 140 = .ok (.getfield 34, 3) := dq_at (q := (140, .getfield 34, 3)) dm_Mo_spread_60 20 rfl
theorem dc_Mo_spread_143 : decode cd_Mo_spread 143 = .ok (.aload_n 0, 1) := dq_at (q := (143, .aload_n 0, 1)) dm_Mo_spread_60 21 rfl
theorem dc_Mo_spread_144 : decode cd_Mo_spread 144 = .ok (.getfield 95, 3) := dq_at (q := (144, .getfield 95, 3)) dm_Mo_spread_60 22 rfl
theorem dc_Mo_spread_147 : decode cd_Mo_spread 147 = .ok (.iload 5, 2) := dq_at (q := (147, .iload 5, 2)) dm_Mo_spread_60 23 rfl
theorem dc_Mo_spread_149 : decode cd_Mo_spread 149 = .ok (.iadd, 1) := dq_at (q := (149, .iadd, 1)) dm_Mo_spread_60 24 rfl
theorem dc_Mo_spread_150 : decode cd_Mo_spread 150 = .ok (.iaload, 1) := dq_at (q := (150, .iaload, 1)) dm_Mo_spread_60 25 rfl
theorem dc_Mo_spread_151 : decode cd_Mo_spread 151 = .ok (.aload_n 0, 1) := dq_at (q := (151, .aload_n 0, 1)) dm_Mo_spread_60 26 rfl
theorem dc_Mo_spread_152 : decode cd_Mo_spread 152 = .ok (.getfield 34, 3) := dq_at (q := (152, .getfield 34, 3)) dm_Mo_spread_60 27 rfl
theorem dc_Mo_spread_155 : decode cd_Mo_spread 155 = .ok (.aload_n 0, 1) := dq_at (q := (155, .aload_n 0, 1)) dm_Mo_spread_60 28 rfl
theorem dc_Mo_spread_156 : decode cd_Mo_spread 156 = .ok (.getfield 95, 3) := dq_at (q := (156, .getfield 95, 3)) dm_Mo_spread_60 29 rfl
theorem dc_Mo_spread_159 : decode cd_Mo_spread 159 = .ok (.iload_n 2, 1) := dq_at (q := (159, .iload_n 2, 1)) dm_Mo_spread_60 30 rfl
theorem dc_Mo_spread_160 : decode cd_Mo_spread 160 = .ok (.iadd, 1) := dq_at (q := (160, .iadd, 1)) dm_Mo_spread_60 31 rfl
theorem dc_Mo_spread_161 : decode cd_Mo_spread 161 = .ok (.iaload, 1) := dq_at (q := (161, .iaload, 1)) dm_Mo_spread_60 32 rfl
theorem dc_Mo_spread_162 : decode cd_Mo_spread 162 = .ok (.iconst 1, 1) := dq_at (q := (162, .iconst 1, 1)) dm_Mo_spread_60 33 rfl
theorem dc_Mo_spread_163 : decode cd_Mo_spread 163 = .ok (.iadd, 1) := dq_at (q := (163, .iadd, 1)) dm_Mo_spread_60 34 rfl
theorem dc_Mo_spread_164 : decode cd_Mo_spread 164 = .ok (.if_icmp .ne 39, 3) := dq_at (q := (164, .if_icmp .ne 39, 3)) dm_Mo_spread_60 35 rfl
theorem dc_Mo_spread_167 : decode cd_Mo_spread 167 = .ok (.aload_n 0, 1) := dq_at (q := (167, .aload_n 0, 1)) dm_Mo_spread_60 36 rfl
theorem dc_Mo_spread_168 : decode cd_Mo_spread 168 = .ok (.getfield 41, 3) := dq_at (q := (168, .getfield 41, 3)) dm_Mo_spread_60 37 rfl
theorem dc_Mo_spread_171 : decode cd_Mo_spread 171 = .ok (.aload_n 0, 1) := dq_at (q := (171, .aload_n 0, 1)) dm_Mo_spread_60 38 rfl
theorem dc_Mo_spread_172 : decode cd_Mo_spread 172 = .ok (.getfield 95, 3) := dq_at (q := (172, .getfield 95, 3)) dm_Mo_spread_60 39 rfl
theorem dc_Mo_spread_175 : decode cd_Mo_spread 175 = .ok (.iload 5, 2) := dq_at (q := (175, .iload 5, 2)) dm_Mo_spread_60 40 rfl
theorem dc_Mo_spread_177 : decode cd_Mo_spread 177 = .ok (.iadd, 1) := dq_at (q := (177, .iadd, 1)) dm_Mo_spread_60 41 rfl
theorem dc_Mo_spread_178 : decode cd_Mo_spread 178 = .ok (.aload_n 0, 1) := dq_at (q := (178, .aload_n 0, 1)) dm_Mo_spread_60 42 rfl
theorem dc_Mo_spread_179 : decode cd_Mo_spread 179 = .ok (.getfield 41, 3) := dq_at (q := (179, .getfield 41, 3)) dm_Mo_spread_60 43 rfl
theorem dc_Mo_spread_182 : decode cd_Mo_spread 182 = .ok (.aload_n 0, 1) := dq_at (q := (182, .aload_n 0, 1)) dm_Mo_spread_60 44 rfl
theorem dc_Mo_spread_183 : decode cd_Mo_spread 183 = .ok (.getfield 95, 3) := dq_at (q := (183, .getfield 95, 3)) dm_Mo_spread_60 45 rfl
theorem dc_Mo_spread_186 : decode cd_Mo_spread 186 = .ok (.iload 5, 2) := dq_at (q := (186, .iload 5, 2)) dm_Mo_spread_60 46 rfl
theorem dc_Mo_spread_188 : decode cd_Mo_spread 188 = .ok (.iadd, 1) := dq_at (q := (188, .iadd, 1)) dm_Mo_spread_60 47 rfl
theorem dc_Mo_spread_189 : decode cd_Mo_spread 189 = .ok (.laload, 1) := dq_at (q := (189, .laload, 1)) dm_Mo_spread_60 48 rfl
theorem dc_Mo_spread_190 : decode cd_Mo_spread 190 = .ok (.aload_n 0, 1) := dq_at (q := (190, .aload_n 0, 1)) dm_Mo_spread_60 49 rfl
theorem dc_Mo_spread_191 : decode cd_Mo_spread 191 = .ok (.getfield 41, 3) := dq_at (q := (191, .getfield 41, 3)) dm_Mo_spread_60 50 rfl
theorem dc_Mo_spread_194 : decode cd_Mo_spread 194 = .ok (.aload_n 0, 1) := dq_at (q := (194, .aload_n 0, 1)) dm_Mo_spread_60 51 rfl
theorem dc_Mo_spread_195 : decode cd_Mo_spread 195 = .ok (.getfield 95, 3) := dq_at (q := (195, .getfield 95, 3)) dm_Mo_spread_60 52 rfl
theorem dc_Mo_spread_198 : decode cd_Mo_spread 198 = .ok (.iload_n 2, 1) := dq_at (q := (198, .iload_n 2, 1)) dm_Mo_spread_60 53 rfl
theorem dc_Mo_spread_199 : decode cd_Mo_spread 199 = .ok (.iadd, 1) := dq_at (q := (199, .iadd, 1)) dm_Mo_spread_60 54 rfl
theorem dc_Mo_spread_200 : decode cd_Mo_spread 200 = .ok (.laload, 1) := dq_at (q := (200, .laload, 1)) dm_Mo_spread_60 55 rfl
theorem dc_Mo_spread_201 : decode cd_Mo_spread 201 = .ok (.ladd, 1) := dq_at (q := (201, .ladd, 1)) dm_Mo_spread_60 56 rfl
theorem dc_Mo_spread_202 : decode cd_Mo_spread 202 = .ok (.lastore, 1) := dq_at (q := (202, .lastore, 1)) dm_Mo_spread_60 57 rfl
theorem dc_Mo_spread_203 : decode cd_Mo_spread 203 = .ok (.iinc 4 1, 3) := dq_at (q := (203, .iinc 4 1, 3)) dm_Mo_spread_60 58 rfl
theorem dc_Mo_spread_206 : decode cd_Mo_spread 206 = .ok (.goto (-177), 3) := dq_at (q := (206, .goto (-177), 3)) dm_Mo_spread_60 59 rfl
def dl_Mo_spread_120 : List (Nat × Instr × Nat) := [(209, .iinc 3 1, 3), (212, .goto (-194), 3), (215, .return_, 1)]
theorem dm_Mo_spread_120 : dl_Mo_spread_120.all (fun q => decide (decode cd_Mo_spread q.1 = .ok (q.2.1, q.2.2))) = true := by decide +kernel
theorem dc_Mo_spread_209 : decode cd_Mo_spread 209 = .ok (.iinc 3 1, 3) := dq_at (q := (209, .iinc 3 1, 3)) dm_Mo_spread_120 0 rfl
theorem dc_Mo_spread_212 : decode cd_Mo_spread 212 = .ok (.goto (-194), 3) := dq_at (q := (212, .goto (-194), 3)) dm_Mo_spread_120 1 rfl
theorem dc_Mo_spread_215 : decode cd_Mo_spread 215 = .ok (.return_, 1) := dq_at (q := (215, .return_, 1)) dm_Mo_spread_120 2 rfl
