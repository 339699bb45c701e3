def dl_Te_byteAt_0 : List (Nat × Instr × Nat) := [(0, .lload_n 0, 1), (1, .bipush 8, 2), (3, .iload_n 2, 1), (4, .imul, 1), (5, .lushr, 1), (6, .l2i, 1), (7, .sipush 255, 3), (10, .iand, 1), (11, .ireturn, 1)]
theorem dm_Te_byteAt_0 : dl_Te_byteAt_0.all (fun q => decide (decode cd_Te_byteAt q.1 = .ok (q.2.1, q.2.2))) = true := by decide +kernel
theorem dc_Te_byteAt_0 : decode cd_Te_byteAt 0 = .ok (.lload_n 0, 1) := dq_at (q := (0, .lload_n 0, 1)) dm_Te_byteAt_0 0 rfl
theorem dc_Te_byteAt_1 : decode cd_Te_byteAt 1 = .ok (.bipush 8, 2) := dq_at (q := (1, .bipush 8, 2)) dm_Te_byteAt_0 1 rfl
theorem dc_Te_byteAt_3 : decode cd_Te_byteAt 3 = .ok (.iload_n 2, 1) := dq_at (q := (3, .iload_n 2, 1)) dm_Te_byteAt_0 2 rfl
theorem dc_Te_byteAt_4 : decode cd_Te_byteAt 4 = .ok (.imul, 1) := dq_at (q := (4, .imul, 1)) dm_Te_byteAt_0 3 rfl
theorem dc_Te_byteAt_5 : decode cd_Te_byteAt 5 = .ok (.lushr, 1) := dq_at (q := (5, .lushr, 1)) dm_Te_byteAt_0 4 rfl
theorem dc_Te_byteAt_6 : decode cd_Te_byteAt 6 = .ok (.l2i, 1) := dq_at (q := (6, .l2i, 1)) dm_Te_byteAt_0 5 rfl
theorem dc_Te_byteAt_7 : decode cd_Te_byteAt 7 = .ok (.sipush 255, 3) := dq_at (q := (7, .sipush 255, 3)) dm_Te_byteAt_0 6 rfl
theorem dc_Te_byteAt_10 : decode cd_Te_byteAt 10 = .ok (.iand, 1) := dq_at (q := (10, .iand, 1)) dm_Te_byteAt_0 7 rfl
theorem dc_Te_byteAt_11 : decode cd_Te_byteAt 11 = .ok (.ireturn, 1) := dq_at (q := (11, .ireturn, 1)) dm_Te_byteAt_0 8 rfl
def dl_Te_empty_0 : List (Nat × Instr × Nat) := [(0, .aload_n 0, 1), (1, .getfield 19, 3), (4, .istore_n 1, 1), (5, .aload_n 0, 1), (6, .iconst 0, 1), (7, .putfield 19, 3), (10, .iload_n 1, 1), (11, .ireturn, 1)]
theorem dm_Te_empty_0 : dl_Te_empty_0.all (fun q => decide (decode cd_Te_empty q.1 = .ok (q.2.1, q.2.2))) = true := by decide +kernel
theorem dc_Te_empty_0 : decode cd_Te_empty 0 = .ok (.aload_n 0, 1) := dq_at (q := (0, .aload_n 0, 1)) dm_Te_empty_0 0 rfl
theorem dc_Te_empty_1 : decode cd_Te_empty 1 = .ok (.getfield 19, 3) := dq_at (q := (1, .getfield 19, 3)) dm_Te_empty_0 1 rfl
theorem dc_Te_empty_4 : decode cd_Te_empty 4 = .ok (.istore_n 1, 1) := dq_at (q := (4, .istore_n 1, 1)) dm_Te_empty_0 2 rfl
theorem dc_Te_empty_5 : decode cd_Te_empty 5 = .ok (.aload_n 0, 1) := dq_at (q := (5, .aload_n 0, 1)) dm_Te_empty_0 3 rfl
theorem dc_Te_empty_6 : decode cd_Te_empty 6 = .ok (.iconst 0, 1) := dq_at (q := (6, .iconst 0, 1)) dm_Te_empty_0 4 rfl
theorem dc_Te_empty_7 : decode cd_Te_empty 7 = .ok (.putfield 19, 3) := dq_at (q := (7, .putfield 19, 3)) dm_Te_empty_0 5 rfl
theorem dc_Te_empty_10 : decode cd_Te_empty 10 = .ok (.iload_n 1, 1) := dq_at (q := (10, .iload_n 1, 1)) dm_Te_empty_0 6 rfl
theorem dc_Te_empty_11 : decode cd_Te_empty 11 = .ok (.ireturn, 1) := dq_at (q := (11, .ireturn, 1)) dm_Te_empty_0 7 rfl
def dl_Te_parse_0 : List (Nat × Instr × Nat) := [(0, .iconst 0, 1), (1, .istore_n 3, 1), (2, .iconst 0, 1), (3, .istore 4, 2), (5, .iconst 0, 1), (6, .istore 5, 2), (8, .iconst 0, 1), (9, .istore 6, 2), (11, .iload 6, 2), (13, .aload_n 0, 1), (14, .getfield 19, 3), (17, .if_icmp .ge 141, 3), (20, .aload_n 0, 1), (21, .getfield 11, 3), (24, .iload 6, 2), (26, .iaload, 1), (27, .istore 7, 2), (29, .iload 7, 2), (31, .bipush 32, 2), (33, .if_icmp .ne 11, 3), (36, .iload 5, 2), (38, .ifCond .ne 6, 3), (41, .goto 111, 3), (44, .iload_n 3, 1), (45, .iload_n 2, 1), (46, .if_icmp .ne 6, 3), (49, .iload 6, 2), (51, .ireturn, 1), (52, .iload 5, 2), (54, .ifCond .ne 34, 3), (57, .iload 7, 2), (59, .bipush 43, 2), (61, .if_icmp .eq 10, 3), (64, .iload 7, 2), (66, .bipush 45, 2), (68, .if_icmp .ne 20, 3), (71, .iload 7, 2), (73, .bipush 43, 2), (75, .if_icmp .ne 7, 3), (78, .iconst 1, 1), (79, .goto 4, 3), (82, .iconst (-1), 1), (83, .istore 5, 2), (85, .goto 67, 3), (88, .iload 7, 2), (90, .bipush 48, 2), (92, .isub, 1), (93, .istore 8, 2), (95, .iload 8, 2), (97, .iconst 1, 1), (98, .if_icmp .lt 20, 3), (101, .iload 8, 2), (103, .iload_n 2, 1), (104, .if_icmp .gt 14, 3), (107, .iload 4, 2), (109, .iload 8, 2), (111, .ishr, 1), (112, .iconst 1, 1), (113, .iand, 1), (114, .iconst 1, 1)]
theorem dm_Te_parse_0 : dl_Te_parse_0.all (fun q => decide (decode cd_Te_parse q.1 = .ok (q.2.1, q.2.2))) = true := by decide +kernel
theorem dc_Te_parse_0 : decode cd_Te_parse 0 = .ok (.iconst 0, 1) := dq_at (q := (0, .iconst 0, 1)) dm_Te_parse_0 0 rfl
theorem dc_Te_parse_1 : decode cd_Te_parse 1 = .ok (.istore_n 3, 1) := dq_at (q := (1, .istore_n 3, 1)) dm_Te_parse_0 1 rfl
theorem dc_Te_parse_2 : decode cd_Te_parse 2 = .ok (.iconst 0, 1) := dq_at (q := (2, .iconst 0, 1)) dm_Te_parse_0 2 rfl
theorem dc_Te_parse_3 : decode cd_Te_parse 3 = .ok (.istore 4, 2) := dq_at (q := (3, .istore 4, 2)) dm_Te_parse_0 3 rfl
theorem dc_Te_parse_5 : decode cd_Te_parse 5 = .ok (.iconst 0, 1) := dq_at (q := (5, .iconst 0, 1)) dm_Te_parse_0 4 rfl
theorem dc_Te_parse_6 : decode cd_Te_parse 6 = .ok (.istore 5, 2) := dq_at (q := (6, .istore 5, 2)) dm_Te_parse_0 5 rfl
theorem dc_Te_parse_8 : decode cd_Te_parse 8 = .ok (.iconst 0, 1) := dq_at (q := (8, .iconst 0, 1)) dm_Te_parse_0 6 rfl
theorem dc_Te_parse_9 : decode cd_Te_parse 9 = .ok (.istore 6, 2) := dq_at (q := (9, .istore 6, 2)) dm_Te_parse_0 7 rfl
theorem dc_Te_parse_11 : decode cd_Te_parse 11 = .ok (.iload 6, 2) := dq_at (q := (11, .iload 6, 2)) dm_Te_parse_0 8 rfl
theorem dc_Te_parse_13 : decode cd_Te_parse 13 = .ok (.aload_n 0, 1) := dq_at (q := (13, .aload_n 0, 1)) dm_Te_parse_0 9 rfl
theorem dc_Te_parse_14 : decode cd_Te_parse 14 = .ok (.getfield 19, 3) := dq_at (q := (14, .getfield 19, 3)) dm_Te_parse_0 10 rfl
theorem dc_Te_parse_17 : decode cd_Te_parse 17 = .ok (.if_icmp .ge 141, 3) := dq_at (q := (17, .if_icmp .ge 141, 3)) dm_Te_parse_0 11 rfl
theorem dc_Te_parse_20 : decode cd_Te_parse 20 = .ok (.aload_n 0, 1) := dq_at (q := (20, .aload_n 0, 1)) dm_Te_parse_0 12 rfl
theorem dc_Te_parse_21 : decode cd_Te_parse 21 = .ok (.getfield 11, 3) := dq_at (q := (21, .getfield 11, 3)) dm_Te_parse_0 13 rfl
theorem dc_Te_parse_24 : decode cd_Te_parse 24 = .ok (.iload 6, 2) := dq_at (q := (24, .iload 6, 2)) dm_Te_parse_0 14 rfl
theorem dc_Te_parse_26 : decode cd_Te_parse 26 = .ok (.iaload, 1) := dq_at (q := (26, .iaload, 1)) dm_Te_parse_0 15 rfl
theorem dc_Te_parse_27 : decode cd_Te_parse 27 = .ok (.istore 7, 2) := dq_at (q := (27, .istore 7, 2)) dm_Te_parse_0 16 rfl
theorem dc_Te_parse_29 : decode cd_Te_parse 29 = .ok (.iload 7, 2) := dq_at (q := (29, .iload 7, 2)) dm_Te_parse_0 17 rfl
theorem dc_Te_parse_31 : decode cd_Te_parse 31 = .ok (.bipush 32, 2) := dq_at (q := (31, .bipush 32, 2)) dm_Te_parse_0 18 rfl
theorem dc_Te_parse_33 : decode cd_Te_parse 33 = .ok (.if_icmp .ne 11, 3) := dq_at (q := (33, .if_icmp .ne 11, 3)) dm_Te_parse_0 19 rfl
theorem dc_Te_parse_36 : decode cd_Te_parse 36 = .ok (.iload 5, 2) := dq_at (q := (36, .iload 5, 2)) dm_Te_parse_0 20 rfl
theorem dc_Te_parse_38 : decode cd_Te_parse 38 = .ok (.ifCond .ne 6, 3) := dq_at (q := (38, .ifCond .ne 6, 3)) dm_Te_parse_0 21 rfl
theorem dc_Te_parse_41 : decode cd_Te_parse 41 = .ok (.goto 111, 3) := dq_at (q := (41, .goto 111, 3)) dm_Te_parse_0 22 rfl
theorem dc_Te_parse_44 : decode cd_Te_parse 44 = .ok (.iload_n 3, 1) := dq_at (q := (44, .iload_n 3, 1)) dm_Te_parse_0 23 rfl
theorem dc_Te_parse_45 : decode cd_Te_parse 45 = .ok (.iload_n 2, 1) := dq_at (q := (45, .iload_n 2, 1)) dm_Te_parse_0 24 rfl
theorem dc_Te_parse_46 : decode cd_Te_parse 46 = .ok (.if_icmp .ne 6, 3) := dq_at (q := (46, .if_icmp .ne 6, 3)) dm_Te_parse_0 25 rfl
theorem dc_Te_parse_49 : decode cd_Te_parse 49 = .ok (.iload 6, 2) := dq_at (q := (49, .iload 6, 2)) dm_Te_parse_0 26 rfl
theorem dc_Te_parse_51 : decode cd_Te_parse 51 = .ok (.ireturn, 1) := dq_at (q := (51, .ireturn, 1)) dm_Te_parse_0 27 rfl
theorem dc_Te_parse_52 : decode cd_Te_parse 52 = .ok (.iload 5, 2) := dq_at (q := (52, .iload 5, 2)) dm_Te_parse_0 28 rfl
theorem dc_Te_parse_54 : decode cd_Te_parse 54 = .ok (.ifCond .ne 34, 3) := dq_at (q := (54, .ifCond .ne 34, 3)) dm_Te_parse_0 29 rfl
theorem dc_Te_parse_57 : decode cd_Te_parse 57 = .ok (.iload 7, 2) := dq_at (q := (57, .iload 7, 2)) dm_Te_parse_0 30 rfl
theorem dc_Te_parse_59 : decode cd_Te_parse 59 = .ok (.bipush 43, 2) := dq_at (q := (59, .bipush 43, 2)) dm_Te_parse_0 31 rfl
theorem dc_Te_parse_61 : decode cd_Te_parse 61 = .ok (.if_icmp .eq 10, 3) := dq_at (q := (61, .if_icmp .eq 10, 3)) dm_Te_parse_0 32 rfl
theorem dc_Te_parse_64 : decode cd_Te_parse 64 = .ok (.iload 7, 2) := dq_at (q := (64, .iload 7, 2)) dm_Te_parse_0 33 rfl
theorem dc_Te_parse_66 : decode cd_Te_parse 66 = .ok (.bipush 45, 2) := dq_at (q := (66, .bipush 45, 2)) dm_Te_parse_0 34 rfl
theorem dc_Te_parse_68 : decode cd_Te_parse 68 = .ok (.if_icmp .ne 20, 3) := dq_at (q := (68, .if_icmp .ne 20, 3)) dm_Te_parse_0 35 rfl
theorem dc_Te_parse_71 : decode cd_Te_parse 71 = .ok (.iload 7, 2) := dq_at (q := (71, .iload 7, 2)) dm_Te_parse_0 36 rfl
theorem dc_Te_parse_73 : decode cd_Te_parse 73 = .ok (.bipush 43, 2) := dq_at (q := (73, .bipush 43, 2)) dm_Te_parse_0 37 rfl
theorem dc_Te_parse_75 : decode cd_Te_parse 75 = .ok (.if_icmp .ne 7, 3) := dq_at (q := (75, .if_icmp .ne 7, 3)) dm_Te_parse_0 38 rfl
theorem dc_Te_parse_78 : decode cd_Te_parse 78 = .ok (.iconst 1, 1) := dq_at (q := (78, .iconst 1, 1)) dm_Te_parse_0 39 rfl
theorem dc_Te_parse_79 : decode cd_Te_parse 79 = .ok (.goto 4, 3) := dq_at (q := (79, .goto 4, 3)) dm_Te_parse_0 40 rfl
theorem dc_Te_parse_82 : decode cd_Te_parse 82 = .ok (.iconst (-1), 1) := dq_at (q := (82, .iconst (-1), 1)) dm_Te_parse_0 41 rfl
theorem dc_Te_parse_83 : decode cd_Te_parse 83 = .ok (.istore 5, 2) := dq_at (q := (83, .istore 5, 2)) dm_Te_parse_0 42 rfl
theorem dc_Te_parse_85 : decode cd_Te_parse 85 = .ok (.goto 67, 3) := dq_at (q := (85, .goto 67, 3)) dm_Te_parse_0 43 rfl
theorem dc_Te_parse_88 : decode cd_Te_parse 88 = .ok (.iload 7, 2) := dq_at (q := (88, .iload 7, 2)) dm_Te_parse_0 44 rfl
theorem dc_Te_parse_90 : decode cd_Te_parse 90 = .ok (.bipush 48, 2) := dq_at (q := (90, .bipush 48, 2)) dm_Te_parse_0 45 rfl
theorem dc_Te_parse_92 : decode cd_Te_parse 92 = .ok (.isub, 1) := dq_at (q := (92, .isub, 1)) dm_Te_parse_0 46 rfl
theorem dc_Te_parse_93 : decode cd_Te_parse 93 = .ok (.istore 8, 2) := dq_at (q := (93, .istore 8, 2)) dm_Te_parse_0 47 rfl
theorem dc_Te_parse_95 : decode cd_Te_parse 95 = .ok (.iload 8, 2) := dq_at (q := (95, .iload 8, 2)) dm_Te_parse_0 48 rfl
theorem dc_Te_parse_97 : decode cd_Te_parse 97 = .ok (.iconst 1, 1) := dq_at (q := (97, .iconst 1, 1)) dm_Te_parse_0 49 rfl
theorem dc_Te_parse_98 : decode cd_Te_parse 98 = .ok (.if_icmp .lt 20, 3) := dq_at (q := (98, .if_icmp .lt 20, 3)) dm_Te_parse_0 50 rfl
theorem dc_Te_parse_101 : decode cd_Te_parse 101 = .ok (.iload 8, 2) := dq_at (q := (101, .iload 8, 2)) dm_Te_parse_0 51 rfl
theorem dc_Te_parse_103 : decode cd_Te_parse 103 = .ok (.iload_n 2, 1) := dq_at (q := (103, .iload_n 2, 1)) dm_Te_parse_0 52 rfl
theorem dc_Te_parse_104 : decode cd_Te_parse 104 = .ok (.if_icmp .gt 14, 3) := dq_at (q := (104, .if_icmp .gt 14, 3)) dm_Te_parse_0 53 rfl
theorem dc_Te_parse_107 : decode cd_Te_parse 107 = .ok (.iload 4, 2) := dq_at (q := (107, .iload 4, 2)) dm_Te_parse_0 54 rfl
theorem dc_Te_parse_109 : decode cd_Te_parse 109 = .ok (.iload 8, 2) := dq_at (q := (109, .iload 8, 2)) dm_Te_parse_0 55 rfl
theorem dc_Te_parse_111 : decode cd_Te_parse 111 = .ok (.ishr, 1) := dq_at (q := (111, .ishr, 1)) dm_Te_parse_0 56 rfl
theorem dc_Te_parse_112 : decode cd_Te_parse 112 = .ok (.iconst 1, 1) := dq_at (q := (112, .iconst 1, 1)) dm_Te_parse_0 57 rfl
theorem dc_Te_parse_113 : decode cd_Te_parse 113 = .ok (.iand, 1) := dq_at (q := (113, .iand, 1)) dm_Te_parse_0 58 rfl
theorem dc_Te_parse_114 : decode cd_Te_parse 114 = .ok (.iconst 1, 1) := dq_at (q := (114, .iconst 1, 1)) dm_Te_parse_0 59 rfl
def dl_Te_parse_60 : List (Nat × Instr × Nat) := [(115, .if_icmp .ne 6, 3), (118, .iload 6, 2), (120, .ireturn, 1), (121, .aload_n 1, 1), (122, .iload_n 3, 1), (123, .iload 5, 2), (125, .ifCond .ge 9, 3), (128, .iload 8, 2), (130, .ineg, 1), (131, .goto 5, 3), (134, .iload 8, 2), (136, .iastore, 1), (137, .iinc 3 1, 3), (140, .iload 4, 2), (142, .iconst 1, 1), (143, .iload 8, 2), (145, .ishl, 1), (146, .ior, 1), (147, .istore 4, 2), (149, .iconst 0, 1), (150, .istore 5, 2), (152, .iinc 6 1, 3), (155, .goto (-144), 3), (158, .iload_n 3, 1), (159, .iload_n 2, 1), (160, .if_icmp .ne 7, 3), (163, .iconst (-1), 1), (164, .goto 7, 3), (167, .aload_n 0, 1), (168, .getfield 19, 3), (171, .ireturn, 1)]
theorem dm_Te_parse_60 : dl_Te_parse_60.all (fun q => decide (decode cd_Te_parse q.1 = .ok (q.2.1, q.2.2))) = true := by decide +kernel
theorem dc_Te_parse_115 : decode cd_Te_parse 115 = .ok (.if_icmp .ne 6, 3) := dq_at (q := (115, .if_icmp .ne 6, 3)) dm_Te_parse_60 0 rfl
theorem dc_Te_parse_118 : decode cd_Te_parse 118 = .ok (.iload 6, 2) := dq_at (q := (118, .iload 6, 2)) dm_Te_parse_60 1 rfl
theorem dc_Te_parse_120 : decode cd_Te_parse 120 = .ok (.ireturn, 1) := dq_at (q := (120, .ireturn, 1)) dm_Te_parse_60 2 rfl
theorem dc_Te_parse_121 : decode cd_Te_parse 121 = .ok (.aload_n 1, 1) := dq_at (q := (121, .aload_n 1, 1)) dm_Te_parse_60 3 rfl
theorem dc_Te_parse_122 : decode cd_Te_parse 122 = .ok (.iload_n 3, 1) := dq_at (q := (122, .iload_n 3, 1)) dm_Te_parse_60 4 rfl
theorem dc_Te_parse_123 : decode cd_Te_parse 123 = .ok (.iload 5, 2) := dq_at (q := (123, .iload 5, 2)) dm_Te_parse_60 5 rfl
theorem dc_Te_parse_125 : decode cd_Te_parse 125 = .ok (.ifCond .ge 9, 3) := dq_at (q := (125, .ifCond .ge 9, 3)) dm_Te_parse_60 6 rfl
theorem dc_Te_parse_128 : decode cd_Te_parse 128 = .ok (.iload 8, 2) := dq_at (q := (128, .iload 8, 2)) dm_Te_parse_60 7 rfl
theorem dc_Te_parse_130 : decode cd_Te_parse 130 = .ok (.ineg, 1) := dq_at (q := (130, .ineg, 1)) dm_Te_parse_60 8 rfl
theorem dc_Te_parse_131 : decode cd_Te_parse 131 = .ok (.goto 5, 3) := dq_at (q := (131, .goto 5, 3)) dm_Te_parse_60 9 rfl
theorem dc_Te_parse_134 : decode cd_Te_parse 134 = .ok (.iload 8, 2) := dq_at (q := (134, .iload 8, 2)) dm_Te_parse_60 10 rfl
theorem dc_Te_parse_136 : decode cd_Te_parse 136 = .ok (.iastore, 1) := dq_at (q := (136, .iastore, 1)) dm_Te_parse_60 11 rfl
theorem dc_Te_parse_137 : decode cd_Te_parse 137 = .ok (.iinc 3 1, 3) := dq_at (q := (137, .iinc 3 1, 3)) dm_Te_parse_60 12 rfl
theorem dc_Te_parse_140 : decode cd_Te_parse 140 = .ok (.iload 4, 2) := dq_at (q := (140, .iload 4, 2)) dm_Te_parse_60 13 rfl
theorem dc_Te_parse_142 : decode cd_Te_parse 142 = .ok (.iconst 1, 1) := dq_at (q := (142, .iconst 1, 1)) dm_Te_parse_60 14 rfl
theorem dc_Te_parse_143 : decode cd_Te_parse 143 = .ok (.iload 8, 2) := dq_at (q := (143, .iload 8, 2)) dm_Te_parse_60 15 rfl
theorem dc_Te_parse_145 : decode cd_Te_parse 145 = .ok (.ishl, 1) := dq_at (q := (145, .ishl, 1)) dm_Te_parse_60 16 rfl
theorem dc_Te_parse_146 : decode cd_Te_parse 146 = .ok (.ior, 1) := dq_at (q := (146, .ior, 1)) dm_Te_parse_60 17 rfl
theorem dc_Te_parse_147 : decode cd_Te_parse 147 = .ok (.istore 4, 2) := dq_at (q := (147, .istore 4, 2)) dm_Te_parse_60 18 rfl
theorem dc_Te_parse_149 : decode cd_Te_parse 149 = .ok (.iconst 0, 1) := dq_at (q := (149, .iconst 0, 1)) dm_Te_parse_60 19 rfl
theorem dc_Te_parse_150 : decode cd_Te_parse 150 = .ok (.istore 5, 2) := dq_at (q := (150, .istore 5, 2)) dm_Te_parse_60 20 rfl
theorem dc_Te_parse_152 : decode cd_Te_parse 152 = .ok (.iinc 6 1, 3) := dq_at (q := (152, .iinc 6 1, 3)) dm_Te_parse_60 21 rfl
theorem dc_Te_parse_155 : decode cd_Te_parse 155 = .ok (.goto (-144), 3) := dq_at (q := (155, .goto (-144), 3)) dm_Te_parse_60 22 rfl
theorem dc_Te_parse_158 : decode cd_Te_parse 158 = .ok (.iload_n 3, 1) := dq_at (q := (158, .iload_n 3, 1)) dm_Te_parse_60 23 rfl
theorem dc_Te_parse_159 : decode cd_Te_parse 159 = .ok (.iload_n 2, 1) := dq_at (q := (159, .iload_n 2, 1)) dm_Te_parse_60 24 rfl
theorem dc_Te_parse_160 : decode cd_Te_parse 160 = .ok (.if_icmp .ne 7, 3) := dq_at (q := (160, .if_icmp .ne 7, 3)) dm_Te_parse_60 25 rfl
theorem dc_Te_parse_163 : decode cd_Te_parse 163 = .ok (.iconst (-1), 1) := dq_at (q := (163, .iconst (-1), 1)) dm_Te_parse_60 26 rfl
theorem dc_Te_parse_164 : decode cd_Te_parse 164 = .ok (.goto 7, 3) := dq_at (q := (164, .goto 7, 3)) dm_Te_parse_60 27 rfl
theorem dc_Te_parse_167 : decode cd_Te_parse 167 = .ok (.aload_n 0, 1) := dq_at (q := (167, .aload_n 0, 1)) dm_Te_parse_60 28 rfl
theorem dc_Te_parse_168 : decode cd_Te_parse 168 = .ok (.getfield 19, 3) := dq_at (q := (168, .getfield 19, 3)) dm_Te_parse_60 29 rfl
theorem dc_Te_parse_171 : decode cd_Te_parse 171 = .ok (.ireturn, 1) := dq_at (q := (171, .ireturn, 1)) dm_Te_parse_60 30 rfl
def dl_La_genes_0 : List (Nat × Instr × Nat) := [(0, .aload_n 0, 1), (1, .iload_n 1, 1), (2, .invokevirtual 7, 3), (5, .goto 6, 3), (8, .astore_n 2, 1), (9, .iconst 1, 1), (10, .ireturn, 1), (11, .iconst 0, 1), (12, .ireturn, 1)]
theorem dm_La_genes_0 : dl_La_genes_0.all (fun q => decide (decode cd_La_genes q.1 = .ok (q.2.1, q.2.2))) = true := by decide +kernel
theorem dc_La_genes_0 : decode cd_La_genes 0 = .ok (.aload_n 0, 1) := dq_at (q := (0, .aload_n 0, 1)) dm_La_genes_0 0 rfl
theorem dc_La_genes_1 : decode cd_La_genes 1 = .ok (.iload_n 1, 1) := dq_at (q := (1, .iload_n 1, 1)) dm_La_genes_0 1 rfl
theorem dc_La_genes_2 : decode cd_La_genes 2 = .ok (.invokevirtual 7, 3) := dq_at (q := (2, .invokevirtual 7, 3)) dm_La_genes_0 2 rfl
theorem dc_La_genes_5 : decode cd_La_genes 5 = .ok (.goto 6, 3) := dq_at (q := (5, .goto 6, 3)) dm_La_genes_0 3 rfl
theorem dc_La_genes_8 : decode cd_La_genes 8 = .ok (.astore_n 2, 1) := dq_at (q := (8, .astore_n 2, 1)) dm_La_genes_0 4 rfl
theorem dc_La_genes_9 : decode cd_La_genes 9 = .ok (.iconst 1, 1) := dq_at (q := (9, .iconst 1, 1)) dm_La_genes_0 5 rfl
theorem dc_La_genes_10 : decode cd_La_genes 10 = .ok (.ireturn, 1) := dq_at (q := (10, .ireturn, 1)) dm_La_genes_0 6 rfl
theorem dc_La_genes_11 : decode cd_La_genes 11 = .ok (.iconst 0, 1) := dq_at (q := (11, .iconst 0, 1)) dm_La_genes_0 7 rfl
theorem dc_La_genes_12 : decode cd_La_genes 12 = .ok (.ireturn, 1) := dq_at (q := (12, .ireturn, 1)) dm_La_genes_0 8 rfl
def dl_La_read_0 : List (Nat × Instr × Nat) := [(0, .aload_n 2, 1), (1, .iconst 0, 1), (2, .aload_n 0, 1), (3, .iload_n 1, 1), (4, .invokevirtual 15, 3), (7, .i2l, 1), (8, .lastore, 1), (9, .goto 6, 3), (12, .astore_n 3, 1), (13, .iconst 1, 1), (14, .ireturn, 1), (15, .iconst 0, 1), (16, .ireturn, 1)]
theorem dm_La_read_0 : dl_La_read_0.all (fun q => decide (decode cd_La_read q.1 = .ok (q.2.1, q.2.2))) = true := by decide +kernel
theorem dc_La_read_0 : decode cd_La_read 0 = .ok (.aload_n 2, 1) := dq_at (q := (0, .aload_n 2, 1)) dm_La_read_0 0 rfl
theorem dc_La_read_1 : decode cd_La_read 1 = .ok (.iconst 0, 1) := dq_at (q := (1, .iconst 0, 1)) dm_La_read_0 1 rfl
theorem dc_La_read_2 : decode cd_La_read 2 = .ok (.aload_n 0, 1) := dq_at (q := (2, .aload_n 0, 1)) dm_La_read_0 2 rfl
theorem dc_La_read_3 : decode cd_La_read 3 = .ok (.iload_n 1, 1) := dq_at (q := (3, .iload_n 1, 1)) dm_La_read_0 3 rfl
theorem dc_La_read_4 : decode cd_La_read 4 = .ok (.invokevirtual 15, 3) := dq_at (q := (4, .invokevirtual 15, 3)) dm_La_read_0 4 rfl
theorem dc_La_read_7 : decode cd_La_read 7 = .ok (.i2l, 1) := dq_at (q := (7, .i2l, 1)) dm_La_read_0 5 rfl
theorem dc_La_read_8 : decode cd_La_read 8 = .ok (.lastore, 1) := dq_at (q := (8, .lastore, 1)) dm_La_read_0 6 rfl
theorem dc_La_read_9 : decode cd_La_read 9 = .ok (.goto 6, 3) := dq_at (q := (9, .goto 6, 3)) dm_La_read_0 7 rfl
theorem dc_La_read_12 : decode cd_La_read 12 = .ok (.astore_n 3, 1) := dq_at (q := (12, .astore_n 3, 1)) dm_La_read_0 8 rfl
theorem dc_La_read_13 : decode cd_La_read 13 = .ok (.iconst 1, 1) := dq_at (q := (13, .iconst 1, 1)) dm_La_read_0 9 rfl
theorem dc_La_read_14 : decode cd_La_read 14 = .ok (.ireturn, 1) := dq_at (q := (14, .ireturn, 1)) dm_La_read_0 10 rfl
theorem dc_La_read_15 : decode cd_La_read 15 = .ok (.iconst 0, 1) := dq_at (q := (15, .iconst 0, 1)) dm_La_read_0 11 rfl
theorem dc_La_read_16 : decode cd_La_read 16 = .ok (.ireturn, 1) := dq_at (q := (16, .ireturn, 1)) dm_La_read_0 12 rfl
def dl_La_gene_0 : List (Nat × Instr × Nat) := [(0, .aload_n 3, 1), (1, .iconst 0, 1), (2, .aload_n 0, 1), (3, .iload_n 1, 1), (4, .iload_n 2, 1), (5, .invokevirtual 21, 3), (8, .i2l, 1), (9, .lastore, 1), (10, .goto 7, 3), (13, .astore 4, 2), (15, .iconst 1, 1), (16, .ireturn, 1), (17, .iconst 0, 1), (18, .ireturn, 1)]
theorem dm_La_gene_0 : dl_La_gene_0.all (fun q => decide (decode cd_La_gene q.1 = .ok (q.2.1, q.2.2))) = true := by decide +kernel
theorem dc_La_gene_0 : decode cd_La_gene 0 = .ok (.aload_n 3, 1) := dq_at (q := (0, .aload_n 3, 1)) dm_La_gene_0 0 rfl
theorem dc_La_gene_1 : decode cd_La_gene 1 = .ok (.iconst 0, 1) := dq_at (q := (1, .iconst 0, 1)) dm_La_gene_0 1 rfl
theorem dc_La_gene_2 : decode cd_La_gene 2 = .ok (.aload_n 0, 1) := dq_at (q := (2, .aload_n 0, 1)) dm_La_gene_0 2 rfl
theorem dc_La_gene_3 : decode cd_La_gene 3 = .ok (.iload_n 1, 1) := dq_at (q := (3, .iload_n 1, 1)) dm_La_gene_0 3 rfl
theorem dc_La_gene_4 : decode cd_La_gene 4 = .ok (.iload_n 2, 1) := dq_at (q := (4, .iload_n 2, 1)) dm_La_gene_0 4 rfl
theorem dc_La_gene_5 : decode cd_La_gene 5 = .ok (.invokevirtual 21, 3) := dq_at (q := (5, .invokevirtual 21, 3)) dm_La_gene_0 5 rfl
theorem dc_La_gene_8 : decode cd_La_gene 8 = .ok (.i2l, 1) := dq_at (q := (8, .i2l, 1)) dm_La_gene_0 6 rfl
theorem dc_La_gene_9 : decode cd_La_gene 9 = .ok (.lastore, 1) := dq_at (q := (9, .lastore, 1)) dm_La_gene_0 7 rfl
theorem dc_La_gene_10 : decode cd_La_gene 10 = .ok (.goto 7, 3) := dq_at (q := (10, .goto 7, 3)) dm_La_gene_0 8 rfl
theorem dc_La_gene_13 : decode cd_La_gene 13 = .ok (.astore 4, 2) := dq_at (q := (13, .astore 4, 2)) dm_La_gene_0 9 rfl
theorem dc_La_gene_15 : decode cd_La_gene 15 = .ok (.iconst 1, 1) := dq_at (q := (15, .iconst 1, 1)) dm_La_gene_0 10 rfl
theorem dc_La_gene_16 : decode cd_La_gene 16 = .ok (.ireturn, 1) := dq_at (q := (16, .ireturn, 1)) dm_La_gene_0 11 rfl
theorem dc_La_gene_17 : decode cd_La_gene 17 = .ok (.iconst 0, 1) := dq_at (q := (17, .iconst 0, 1)) dm_La_gene_0 12 rfl
theorem dc_La_gene_18 : decode cd_La_gene 18 = .ok (.ireturn, 1) := dq_at (q := (18, .ireturn, 1)) dm_La_gene_0 13 rfl
def dl_La_copy_0 : List (Nat × Instr × Nat) := [(0, .aload_n 0, 1), (1, .iload_n 1, 1), (2, .iload_n 2, 1), (3, .invokevirtual 25, 3), (6, .goto 6, 3), (9, .astore_n 3, 1), (10, .iconst 1, 1), (11, .ireturn, 1), (12, .iconst 0, 1), (13, .ireturn, 1)]
theorem dm_La_copy_0 : dl_La_copy_0.all (fun q => decide (decode cd_La_copy q.1 = .ok (q.2.1, q.2.2))) = true := by decide +kernel
theorem dc_La_copy_0 : decode cd_La_copy 0 = .ok (.aload_n 0, 1) := dq_at (q := (0, .aload_n 0, 1)) dm_La_copy_0 0 rfl
theorem dc_La_copy_1 : decode cd_La_copy 1 = .ok (.iload_n 1, 1) := dq_at (q := (1, .iload_n 1, 1)) dm_La_copy_0 1 rfl
theorem dc_La_copy_2 : decode cd_La_copy 2 = .ok (.iload_n 2, 1) := dq_at (q := (2, .iload_n 2, 1)) dm_La_copy_0 2 rfl
theorem dc_La_copy_3 : decode cd_La_copy 3 = .ok (.invokevirtual 25, 3) := dq_at (q := (3, .invokevirtual 25, 3)) dm_La_copy_0 3 rfl
theorem dc_La_copy_6 : decode cd_La_copy 6 = .ok (.goto 6, 3) := dq_at (q := (6, .goto 6, 3)) dm_La_copy_0 4 rfl
theorem dc_La_copy_9 : decode cd_La_copy 9 = .ok (.astore_n 3, 1) := dq_at (q := (9, .astore_n 3, 1)) dm_La_copy_0 5 rfl
theorem dc_La_copy_10 : decode cd_La_copy 10 = .ok (.iconst 1, 1) := dq_at (q := (10, .iconst 1, 1)) dm_La_copy_0 6 rfl
theorem dc_La_copy_11 : decode cd_La_copy 11 = .ok (.ireturn, 1) := dq_at (q := (11, .ireturn, 1)) dm_La_copy_0 7 rfl
theorem dc_La_copy_12 : decode cd_La_copy 12 = .ok (.iconst 0, 1) := dq_at (q := (12, .iconst 0, 1)) dm_La_copy_0 8 rfl
theorem dc_La_copy_13 : decode cd_La_copy 13 = .ok (.ireturn, 1) := dq_at (q := (13, .ireturn, 1)) dm_La_copy_0 9 rfl
def dl_La_reverse_0 : List (Nat × Instr × Nat) := [(0, .aload_n 0, 1), (1, .iload_n 1, 1), (2, .iload_n 2, 1), (3, .iload_n 3, 1), (4, .invokevirtual 29, 3), (7, .goto 7, 3), (10, .astore 4, 2), (12, .iconst 1, 1), (13, .ireturn, 1), (14, .iconst 0, 1), (15, .ireturn, 1)]
theorem dm_La_reverse_0 : dl_La_reverse_0.all (fun q => decide (decode cd_La_reverse q.1 = .ok (q.2.1, q.2.2))) = true := by decide +kernel
theorem dc_La_reverse_0 : decode cd_La_reverse 0 = .ok (.aload_n 0, 1) := dq_at (q := (0, .aload_n 0, 1)) dm_La_reverse_0 0 rfl
theorem dc_La_reverse_1 : decode cd_La_reverse 1 = .ok (.iload_n 1, 1) := dq_at (q := (1, .iload_n 1, 1)) dm_La_reverse_0 1 rfl
theorem dc_La_reverse_2 : decode cd_La_reverse 2 = .ok (.iload_n 2, 1) := dq_at (q := (2, .iload_n 2, 1)) dm_La_reverse_0 2 rfl
theorem dc_La_reverse_3 : decode cd_La_reverse 3 = .ok (.iload_n 3, 1) := dq_at (q := (3, .iload_n 3, 1)) dm_La_reverse_0 3 rfl
theorem dc_La_reverse_4 : decode cd_La_reverse 4 = .ok (.invokevirtual 29, 3) := dq_at (q := (4, .invokevirtual 29, 3)) dm_La_reverse_0 4 rfl
theorem dc_La_reverse_7 : decode cd_La_reverse 7 = .ok (.goto 7, 3) := dq_at (q := (7, .goto 7, 3)) dm_La_reverse_0 5 rfl
theorem dc_La_reverse_10 : decode cd_La_reverse 10 = .ok (.astore 4, 2) := dq_at (q := (10, .astore 4, 2)) dm_La_reverse_0 6 rfl
theorem dc_La_reverse_12 : decode cd_La_reverse 12 = .ok (.iconst 1, 1) := dq_at (q := (12, .iconst 1, 1)) dm_La_reverse_0 7 rfl
theorem dc_La_reverse_13 : decode cd_La_reverse 13 = .ok (.ireturn, 1) := dq_at (q := (13, .ireturn, 1)) dm_La_reverse_0 8 rfl
theorem dc_La_reverse_14 : decode cd_La_reverse 14 = .ok (.iconst 0, 1) := dq_at (q := (14, .iconst 0, 1)) dm_La_reverse_0 9 rfl
theorem dc_La_reverse_15 : decode cd_La_reverse 15 = .ok (.ireturn, 1) := dq_at (q := (15, .ireturn, 1)) dm_La_reverse_0 10 rfl
def dl_La_undo_0 : List (Nat × Instr × Nat) := [(0, .aload_n 2, 1), (1, .iconst 0, 1), (2, .aload_n 0, 1), (3, .iload_n 1, 1), (4, .invokevirtual 33, 3), (7, .ifCond .eq 7, 3), (10, .lconst 1, 1), (11, .goto 4, 3), (14, .lconst 0, 1), (15, .lastore, 1), (16, .goto 6, 3), (19, .astore_n 3, 1), (20, .iconst 1, 1), (21, .ireturn, 1), (22, .iconst 0, 1), (23, .ireturn, 1)]
theorem dm_La_undo_0 : dl_La_undo_0.all (fun q => decide (decode cd_La_undo q.1 = .ok (q.2.1, q.2.2))) = true := by decide +kernel
theorem dc_La_undo_0 : decode cd_La_undo 0 = .ok (.aload_n 2, 1) := dq_at (q := (0, .aload_n 2, 1)) dm_La_undo_0 0 rfl
theorem dc_La_undo_1 : decode cd_La_undo 1 = .ok (.iconst 0, 1) := dq_at (q := (1, .iconst 0, 1)) dm_La_undo_0 1 rfl
theorem dc_La_undo_2 : decode cd_La_undo 2 = .ok (.aload_n 0, 1) := dq_at (q := (2, .aload_n 0, 1)) dm_La_undo_0 2 rfl
theorem dc_La_undo_3 : decode cd_La_undo 3 = .ok (.iload_n 1, 1) := dq_at (q := (3, .iload_n 1, 1)) dm_La_undo_0 3 rfl
theorem dc_La_undo_4 : decode cd_La_undo 4 = .ok (.invokevirtual 33, 3) := dq_at (q := (4, .invokevirtual 33, 3)) dm_La_undo_0 4 rfl
theorem dc_La_undo_7 : decode cd_La_undo 7 = .ok (.ifCond .eq 7, 3) := dq_at (q := (7, .ifCond .eq 7, 3)) dm_La_undo_0 5 rfl
theorem dc_La_undo_10 : decode cd_La_undo 10 = .ok (.lconst 1, 1) := dq_at (q := (10, .lconst 1, 1)) dm_La_undo_0 6 rfl
theorem dc_La_undo_11 : decode cd_La_undo 11 = .ok (.goto 4, 3) := dq_at (q := (11, .goto 4, 3)) dm_La_undo_0 7 rfl
theorem dc_La_undo_14 : decode cd_La_undo 14 = .ok (.lconst 0, 1) := dq_at (q := (14, .lconst 0, 1)) dm_La_undo_0 8 rfl
theorem dc_La_undo_15 : decode cd_La_undo 15 = .ok (.lastore, 1) := dq_at (q := (15, .lastore, 1)) dm_La_undo_0 9 rfl
theorem dc_La_undo_16 : decode cd_La_undo 16 = .ok (.goto 6, 3) := dq_at (q := (16, .goto 6, 3)) dm_La_undo_0 10 rfl
theorem dc_La_undo_19 : decode cd_La_undo 19 = .ok (.astore_n 3, 1) := dq_at (q := (19, .astore_n 3, 1)) dm_La_undo_0 11 rfl
theorem dc_La_undo_20 : decode cd_La_undo 20 = .ok (.iconst 1, 1) := dq_at (q := (20, .iconst 1, 1)) dm_La_undo_0 12 rfl
theorem dc_La_undo_21 : decode cd_La_undo 21 = .ok (.ireturn, 1) := dq_at (q := (21, .ireturn, 1)) dm_La_undo_0 13 rfl
theorem dc_La_undo_22 : decode cd_La_undo 22 = .ok (.iconst 0, 1) := dq_at (q := (22, .iconst 0, 1)) dm_La_undo_0 14 rfl
theorem dc_La_undo_23 : decode cd_La_undo 23 = .ok (.ireturn, 1) := dq_at (q := (23, .ireturn, 1)) dm_La_undo_0 15 rfl
def dl_La_distance_0 : List (Nat × Instr × Nat) := [(0, .aload_n 3, 1), (1, .iconst 0, 1), (2, .aload_n 0, 1), (3, .iload_n 1, 1), (4, .iload_n 2, 1), (5, .invokevirtual 37, 3), (8, .i2l, 1), (9, .lastore, 1), (10, .goto 7, 3), (13, .astore 4, 2), (15, .iconst 1, 1), (16, .ireturn, 1), (17, .iconst 0, 1), (18, .ireturn, 1)]
theorem dm_La_distance_0 : dl_La_distance_0.all (fun q => decide (decode cd_La_distance q.1 = .ok (q.2.1, q.2.2))) = true := by decide +kernel
theorem dc_La_distance_0 : decode cd_La_distance 0 = .ok (.aload_n 3, 1) := dq_at (q := (0, .aload_n 3, 1)) dm_La_distance_0 0 rfl
theorem dc_La_distance_1 : decode cd_La_distance 1 = .ok (.iconst 0, 1) := dq_at (q := (1, .iconst 0, 1)) dm_La_distance_0 1 rfl
theorem dc_La_distance_2 : decode cd_La_distance 2 = .ok (.aload_n 0, 1) := dq_at (q := (2, .aload_n 0, 1)) dm_La_distance_0 2 rfl
theorem dc_La_distance_3 : decode cd_La_distance 3 = .ok (.iload_n 1, 1) := dq_at (q := (3, .iload_n 1, 1)) dm_La_distance_0 3 rfl
theorem dc_La_distance_4 : decode cd_La_distance 4 = .ok (.iload_n 2, 1) := dq_at (q := (4, .iload_n 2, 1)) dm_La_distance_0 4 rfl
theorem dc_La_distance_5 : decode cd_La_distance 5 = .ok (.invokevirtual 37, 3) := dq_at (q := (5, .invokevirtual 37, 3)) dm_La_distance_0 5 rfl
theorem dc_La_distance_8 : decode cd_La_distance 8 = .ok (.i2l, 1) := dq_at (q := (8, .i2l, 1)) dm_La_distance_0 6 rfl
theorem dc_La_distance_9 : decode cd_La_distance 9 = .ok (.lastore, 1) := dq_at (q := (9, .lastore, 1)) dm_La_distance_0 7 rfl
theorem dc_La_distance_10 : decode cd_La_distance 10 = .ok (.goto 7, 3) := dq_at (q := (10, .goto 7, 3)) dm_La_distance_0 8 rfl
theorem dc_La_distance_13 : decode cd_La_distance 13 = .ok (.astore 4, 2) := dq_at (q := (13, .astore 4, 2)) dm_La_distance_0 9 rfl
theorem dc_La_distance_15 : decode cd_La_distance 15 = .ok (.iconst 1, 1) := dq_at (q := (15, .iconst 1, 1)) dm_La_distance_0 10 rfl
theorem dc_La_distance_16 : decode cd_La_distance 16 = .ok (.ireturn, 1) := dq_at (q := (16, .ireturn, 1)) dm_La_distance_0 11 rfl
theorem dc_La_distance_17 : decode cd_La_distance 17 = .ok (.iconst 0, 1) := dq_at (q := (17, .iconst 0, 1)) dm_La_distance_0 12 rfl
theorem dc_La_distance_18 : decode cd_La_distance 18 = .ok (.ireturn, 1) := dq_at (q := (18, .ireturn, 1)) dm_La_distance_0 13 rfl
def dl_La_drawing_0 : List (Nat × Instr × Nat) := [(0, .aload 4, 2), (2, .iconst 0, 1), (3, .aload_n 0, 1), (4, .iload_n 1, 1), (5, .iload_n 2, 1), (6, .iload_n 3, 1), (7, .invokevirtual 40, 3), (10, .i2l, 1), (11, .lastore, 1), (12, .goto 11, 3), (15, .astore 5, 2), (17, .iconst 1, 1), (18, .ireturn, 1), (19, .astore 5, 2), (21, .iconst 2, 1), (22, .ireturn, 1), (23, .iconst 0, 1), (24, .ireturn, 1)]
theorem dm_La_drawing_0 : dl_La_drawing_0.all (fun q => decide (decode cd_La_drawing q.1 = .ok (q.2.1, q.2.2))) = true := by decide +kernel
theorem dc_La_drawing_0 : decode cd_La_drawing 0 = .ok (.aload 4, 2) := dq_at (q := (0, .aload 4, 2)) dm_La_drawing_0 0 rfl
theorem dc_La_drawing_2 : decode cd_La_drawing 2 = .ok (.iconst 0, 1) := dq_at (q := (2, .iconst 0, 1)) dm_La_drawing_0 1 rfl
theorem dc_La_drawing_3 : decode cd_La_drawing 3 = .ok (.aload_n 0, 1) := dq_at (q := (3, .aload_n 0, 1)) dm_La_drawing_0 2 rfl
theorem dc_La_drawing_4 : decode cd_La_drawing 4 = .ok (.iload_n 1, 1) := dq_at (q := (4, .iload_n 1, 1)) dm_La_drawing_0 3 rfl
theorem dc_La_drawing_5 : decode cd_La_drawing 5 = .ok (.iload_n 2, 1) := dq_at (q := (5, .iload_n 2, 1)) dm_La_drawing_0 4 rfl
theorem dc_La_drawing_6 : decode cd_La_drawing 6 = .ok (.iload_n 3, 1) := dq_at (q := (6, .iload_n 3, 1)) dm_La_drawing_0 5 rfl
theorem dc_La_drawing_7 : decode cd_La_drawing 7 = .ok (.invokevirtual 40, 3) := dq_at (q := (7, .invokevirtual 40, 3)) dm_La_drawing_0 6 rfl
theorem dc_La_drawing_10 : decode cd_La_drawing 10 = .ok (.i2l, 1) := dq_at (q := (10, .i2l, 1)) dm_La_drawing_0 7 rfl
theorem dc_La_drawing_11 : decode cd_La_drawing 11 = .ok (.lastore, 1) := dq_at (q := (11, .lastore, 1)) dm_La_drawing_0 8 rfl
theorem dc_La_drawing_12 : decode cd_La_drawing 12 = .ok (.goto 11, 3) := dq_at (q := (12, .goto 11, 3)) dm_La_drawing_0 9 rfl
theorem dc_La_drawing_15 : decode cd_La_drawing 15 = .ok (.astore 5, 2) := dq_at (q := (15, .astore 5, 2)) dm_La_drawing_0 10 rfl
theorem dc_La_drawing_17 : decode cd_La_drawing 17 = .ok (.iconst 1, 1) := dq_at (q := (17, .iconst 1, 1)) dm_La_drawing_0 11 rfl
theorem dc_La_drawing_18 : decode cd_La_drawing 18 = .ok (.ireturn, 1) := dq_at (q := (18, .ireturn, 1)) dm_La_drawing_0 12 rfl
theorem dc_La_drawing_19 : decode cd_La_drawing 19 = .ok (.astore 5, 2) := dq_at (q := (19, .astore 5, 2)) dm_La_drawing_0 13 rfl
theorem dc_La_drawing_21 : decode cd_La_drawing 21 = .ok (.iconst 2, 1) := dq_at (q := (21, .iconst 2, 1)) dm_La_drawing_0 14 rfl
theorem dc_La_drawing_22 : decode cd_La_drawing 22 = .ok (.ireturn, 1) := dq_at (q := (22, .ireturn, 1)) dm_La_drawing_0 15 rfl
theorem dc_La_drawing_23 : decode cd_La_drawing 23 = .ok (.iconst 0, 1) := dq_at (q := (23, .iconst 0, 1)) dm_La_drawing_0 16 rfl
theorem dc_La_drawing_24 : decode cd_La_drawing 24 = .ok (.ireturn, 1) := dq_at (q := (24, .ireturn, 1)) dm_La_drawing_0 17 rfl
def dl_La_line_0 : List (Nat × Instr × Nat) := [(0, .aload 4, 2), (2, .iconst 0, 1), (3, .aload_n 0, 1), (4, .iload_n 1, 1), (5, .iload_n 2, 1), (6, .iload_n 3, 1), (7, .invokevirtual 44, 3), (10, .i2l, 1), (11, .lastore, 1), (12, .goto 11, 3), (15, .astore 5, 2), (17, .iconst 1, 1), (18, .ireturn, 1), (19, .astore 5, 2), (21, .iconst 2, 1), (22, .ireturn, 1), (23, .iconst 0, 1), (24, .ireturn, 1)]
theorem dm_La_line_0 : dl_La_line_0.all (fun q => decide (decode cd_La_line q.1 = .ok (q.2.1, q.2.2))) = true := by decide +kernel
theorem dc_La_line_0 : decode cd_La_line 0 = .ok (.aload 4, 2) := dq_at (q := (0, .aload 4, 2)) dm_La_line_0 0 rfl
theorem dc_La_line_2 : decode cd_La_line 2 = .ok (.iconst 0, 1) := dq_at (q := (2, .iconst 0, 1)) dm_La_line_0 1 rfl
theorem dc_La_line_3 : decode cd_La_line 3 = .ok (.aload_n 0, 1) := dq_at (q := (3, .aload_n 0, 1)) dm_La_line_0 2 rfl
theorem dc_La_line_4 : decode cd_La_line 4 = .ok (.iload_n 1, 1) := dq_at (q := (4, .iload_n 1, 1)) dm_La_line_0 3 rfl
theorem dc_La_line_5 : decode cd_La_line 5 = .ok (.iload_n 2, 1) := dq_at (q := (5, .iload_n 2, 1)) dm_La_line_0 4 rfl
theorem dc_La_line_6 : decode cd_La_line 6 = .ok (.iload_n 3, 1) := dq_at (q := (6, .iload_n 3, 1)) dm_La_line_0 5 rfl
theorem dc_La_line_7 : decode cd_La_line 7 = .ok (.invokevirtual 44, 3) := dq_at (q := (7, .invokevirtual 44, 3)) dm_La_line_0 6 rfl
theorem dc_La_line_10 : decode cd_La_line 10 = .ok (.i2l, 1) := dq_at (q := (10, .i2l, 1)) dm_La_line_0 7 rfl
theorem dc_La_line_11 : decode cd_La_line 11 = .ok (.lastore, 1) := dq_at (q := (11, .lastore, 1)) dm_La_line_0 8 rfl
theorem dc_La_line_12 : decode cd_La_line 12 = .ok (.goto 11, 3) := dq_at (q := (12, .goto 11, 3)) dm_La_line_0 9 rfl
theorem dc_La_line_15 : decode cd_La_line 15 = .ok (.astore 5, 2) := dq_at (q := (15, .astore 5, 2)) dm_La_line_0 10 rfl
theorem dc_La_line_17 : decode cd_La_line 17 = .ok (.iconst 1, 1) := dq_at (q := (17, .iconst 1, 1)) dm_La_line_0 11 rfl
theorem dc_La_line_18 : decode cd_La_line 18 = .ok (.ireturn, 1) := dq_at (q := (18, .ireturn, 1)) dm_La_line_0 12 rfl
theorem dc_La_line_19 : decode cd_La_line 19 = .ok (.astore 5, 2) := dq_at (q := (19, .astore 5, 2)) dm_La_line_0 13 rfl
theorem dc_La_line_21 : decode cd_La_line 21 = .ok (.iconst 2, 1) := dq_at (q := (21, .iconst 2, 1)) dm_La_line_0 14 rfl
theorem dc_La_line_22 : decode cd_La_line 22 = .ok (.ireturn, 1) := dq_at (q := (22, .ireturn, 1)) dm_La_line_0 15 rfl
theorem dc_La_line_23 : decode cd_La_line 23 = .ok (.iconst 0, 1) := dq_at (q := (23, .iconst 0, 1)) dm_La_line_0 16 rfl
theorem dc_La_line_24 : decode cd_La_line 24 = .ok (.ireturn, 1) := dq_at (q := (24, .ireturn, 1)) dm_La_line_0 17 rfl
def dl_La_interval_0 : List (Nat × Instr × Nat) := [(0, .aload 4, 2), (2, .iconst 0, 1), (3, .aload_n 0, 1), (4, .iload_n 1, 1), (5, .iload_n 2, 1), (6, .iload_n 3, 1), (7, .invokevirtual 47, 3), (10, .i2l, 1), (11, .lastore, 1), (12, .goto 7, 3), (15, .astore 5, 2), (17, .iconst 1, 1), (18, .ireturn, 1), (19, .iconst 0, 1), (20, .ireturn, 1)]
theorem dm_La_interval_0 : dl_La_interval_0.all (fun q => decide (decode cd_La_interval q.1 = .ok (q.2.1, q.2.2))) = true := by decide +kernel
theorem dc_La_interval_0 : decode cd_La_interval 0 = .ok (.aload 4, 2) := dq_at (q := (0, .aload 4, 2)) dm_La_interval_0 0 rfl
theorem dc_La_interval_2 : decode cd_La_interval 2 = .ok (.iconst 0, 1) := dq_at (q := (2, .iconst 0, 1)) dm_La_interval_0 1 rfl
theorem dc_La_interval_3 : decode cd_La_interval 3 = .ok (.aload_n 0, 1) := dq_at (q := (3, .aload_n 0, 1)) dm_La_interval_0 2 rfl
theorem dc_La_interval_4 : decode cd_La_interval 4 = .ok (.iload_n 1, 1) := dq_at (q := (4, .iload_n 1, 1)) dm_La_interval_0 3 rfl
theorem dc_La_interval_5 : decode cd_La_interval 5 = .ok (.iload_n 2, 1) := dq_at (q := (5, .iload_n 2, 1)) dm_La_interval_0 4 rfl
theorem dc_La_interval_6 : decode cd_La_interval 6 = .ok (.iload_n 3, 1) := dq_at (q := (6, .iload_n 3, 1)) dm_La_interval_0 5 rfl
theorem dc_La_interval_7 : decode cd_La_interval 7 = .ok (.invokevirtual 47, 3) := dq_at (q := (7, .invokevirtual 47, 3)) dm_La_interval_0 6 rfl
theorem dc_La_interval_10 : decode cd_La_interval 10 = .ok (.i2l, 1) := dq_at (q := (10, .i2l, 1)) dm_La_interval_0 7 rfl
theorem dc_La_interval_11 : decode cd_La_interval 11 = .ok (.lastore, 1) := dq_at (q := (11, .lastore, 1)) dm_La_interval_0 8 rfl
theorem dc_La_interval_12 : decode cd_La_interval 12 = .ok (.goto 7, 3) := dq_at (q := (12, .goto 7, 3)) dm_La_interval_0 9 rfl
theorem dc_La_interval_15 : decode cd_La_interval 15 = .ok (.astore 5, 2) := dq_at (q := (15, .astore 5, 2)) dm_La_interval_0 10 rfl
theorem dc_La_interval_17 : decode cd_La_interval 17 = .ok (.iconst 1, 1) := dq_at (q := (17, .iconst 1, 1)) dm_La_interval_0 11 rfl
theorem dc_La_interval_18 : decode cd_La_interval 18 = .ok (.ireturn, 1) := dq_at (q := (18, .ireturn, 1)) dm_La_interval_0 12 rfl
theorem dc_La_interval_19 : decode cd_La_interval 19 = .ok (.iconst 0, 1) := dq_at (q := (19, .iconst 0, 1)) dm_La_interval_0 13 rfl
theorem dc_La_interval_20 : decode cd_La_interval 20 = .ok (.ireturn, 1) := dq_at (q := (20, .ireturn, 1)) dm_La_interval_0 14 rfl
def dl_La_scenario_0 : List (Nat × Instr × Nat) := [(0, .aload_n 3, 1), (1, .iconst 0, 1), (2, .aload_n 0, 1), (3, .iload_n 1, 1), (4, .iload_n 2, 1), (5, .invokevirtual 50, 3), (8, .i2l, 1), (9, .lastore, 1), (10, .goto 7, 3), (13, .astore 4, 2), (15, .iconst 1, 1), (16, .ireturn, 1), (17, .iconst 0, 1), (18, .ireturn, 1)]
theorem dm_La_scenario_0 : dl_La_scenario_0.all (fun q => decide (decode cd_La_scenario q.1 = .ok (q.2.1, q.2.2))) = true := by decide +kernel
theorem dc_La_scenario_0 : decode cd_La_scenario 0 = .ok (.aload_n 3, 1) := dq_at (q := (0, .aload_n 3, 1)) dm_La_scenario_0 0 rfl
theorem dc_La_scenario_1 : decode cd_La_scenario 1 = .ok (.iconst 0, 1) := dq_at (q := (1, .iconst 0, 1)) dm_La_scenario_0 1 rfl
theorem dc_La_scenario_2 : decode cd_La_scenario 2 = .ok (.aload_n 0, 1) := dq_at (q := (2, .aload_n 0, 1)) dm_La_scenario_0 2 rfl
theorem dc_La_scenario_3 : decode cd_La_scenario 3 = .ok (.iload_n 1, 1) := dq_at (q := (3, .iload_n 1, 1)) dm_La_scenario_0 3 rfl
theorem dc_La_scenario_4 : decode cd_La_scenario 4 = .ok (.iload_n 2, 1) := dq_at (q := (4, .iload_n 2, 1)) dm_La_scenario_0 4 rfl
theorem dc_La_scenario_5 : decode cd_La_scenario 5 = .ok (.invokevirtual 50, 3) := dq_at (q := (5, .invokevirtual 50, 3)) dm_La_scenario_0 5 rfl
theorem dc_La_scenario_8 : decode cd_La_scenario 8 = .ok (.i2l, 1) := dq_at (q := (8, .i2l, 1)) dm_La_scenario_0 6 rfl
theorem dc_La_scenario_9 : decode cd_La_scenario 9 = .ok (.lastore, 1) := dq_at (q := (9, .lastore, 1)) dm_La_scenario_0 7 rfl
theorem dc_La_scenario_10 : decode cd_La_scenario 10 = .ok (.goto 7, 3) := dq_at (q := (10, .goto 7, 3)) dm_La_scenario_0 8 rfl
theorem dc_La_scenario_13 : decode cd_La_scenario 13 = .ok (.astore 4, 2) := dq_at (q := (13, .astore 4, 2)) dm_La_scenario_0 9 rfl
theorem dc_La_scenario_15 : decode cd_La_scenario 15 = .ok (.iconst 1, 1) := dq_at (q := (15, .iconst 1, 1)) dm_La_scenario_0 10 rfl
theorem dc_La_scenario_16 : decode cd_La_scenario 16 = .ok (.ireturn, 1) := dq_at (q := (16, .ireturn, 1)) dm_La_scenario_0 11 rfl
theorem dc_La_scenario_17 : decode cd_La_scenario 17 = .ok (.iconst 0, 1) := dq_at (q := (17, .iconst 0, 1)) dm_La_scenario_0 12 rfl
theorem dc_La_scenario_18 : decode cd_La_scenario 18 = .ok (.ireturn, 1) := dq_at (q := (18, .ireturn, 1)) dm_La_scenario_0 13 rfl
def dl_La_step_0 : List (Nat × Instr × Nat) := [(0, .aload_n 2, 1), (1, .iconst 0, 1), (2, .aload_n 0, 1), (3, .iload_n 1, 1), (4, .invokevirtual 53, 3), (7, .i2l, 1), (8, .lastore, 1), (9, .goto 9, 3), (12, .astore_n 3, 1), (13, .iconst 1, 1), (14, .ireturn, 1), (15, .astore_n 3, 1), (16, .iconst 2, 1), (17, .ireturn, 1), (18, .iconst 0, 1), (19, .ireturn, 1)]
theorem dm_La_step_0 : dl_La_step_0.all (fun q => decide (decode cd_La_step q.1 = .ok (q.2.1, q.2.2))) = true := by decide +kernel
theorem dc_La_step_0 : decode cd_La_step 0 = .ok (.aload_n 2, 1) := dq_at (q := (0, .aload_n 2, 1)) dm_La_step_0 0 rfl
theorem dc_La_step_1 : decode cd_La_step 1 = .ok (.iconst 0, 1) := dq_at (q := (1, .iconst 0, 1)) dm_La_step_0 1 rfl
theorem dc_La_step_2 : decode cd_La_step 2 = .ok (.aload_n 0, 1) := dq_at (q := (2, .aload_n 0, 1)) dm_La_step_0 2 rfl
theorem dc_La_step_3 : decode cd_La_step 3 = .ok (.iload_n 1, 1) := dq_at (q := (3, .iload_n 1, 1)) dm_La_step_0 3 rfl
theorem dc_La_step_4 : decode cd_La_step 4 = .ok (.invokevirtual 53, 3) := dq_at (q := (4, .invokevirtual 53, 3)) dm_La_step_0 4 rfl
theorem dc_La_step_7 : decode cd_La_step 7 = .ok (.i2l, 1) := dq_at (q := (7, .i2l, 1)) dm_La_step_0 5 rfl
theorem dc_La_step_8 : decode cd_La_step 8 = .ok (.lastore, 1) := dq_at (q := (8, .lastore, 1)) dm_La_step_0 6 rfl
theorem dc_La_step_9 : decode cd_La_step 9 = .ok (.goto 9, 3) := dq_at (q := (9, .goto 9, 3)) dm_La_step_0 7 rfl
theorem dc_La_step_12 : decode cd_La_step 12 = .ok (.astore_n 3, 1) := dq_at (q := (12, .astore_n 3, 1)) dm_La_step_0 8 rfl
theorem dc_La_step_13 : decode cd_La_step 13 = .ok (.iconst 1, 1) := dq_at (q := (13, .iconst 1, 1)) dm_La_step_0 9 rfl
theorem dc_La_step_14 : decode cd_La_step 14 = .ok (.ireturn, 1) := dq_at (q := (14, .ireturn, 1)) dm_La_step_0 10 rfl
theorem dc_La_step_15 : decode cd_La_step 15 = .ok (.astore_n 3, 1) := dq_at (q := (15, .astore_n 3, 1)) dm_La_step_0 11 rfl
theorem dc_La_step_16 : decode cd_La_step 16 = .ok (.iconst 2, 1) := dq_at (q := (16, .iconst 2, 1)) dm_La_step_0 12 rfl
theorem dc_La_step_17 : decode cd_La_step 17 = .ok (.ireturn, 1) := dq_at (q := (17, .ireturn, 1)) dm_La_step_0 13 rfl
theorem dc_La_step_18 : decode cd_La_step 18 = .ok (.iconst 0, 1) := dq_at (q := (18, .iconst 0, 1)) dm_La_step_0 14 rfl
theorem dc_La_step_19 : decode cd_La_step 19 = .ok (.ireturn, 1) := dq_at (q := (19, .ireturn, 1)) dm_La_step_0 15 rfl
def dl_La_ways_0 : List (Nat × Instr × Nat) := [(0, .aload_n 3, 1), (1, .iconst 0, 1), (2, .aload_n 0, 1), (3, .iload_n 1, 1), (4, .iload_n 2, 1), (5, .invokevirtual 58, 3), (8, .lastore, 1), (9, .goto 11, 3), (12, .astore 4, 2), (14, .iconst 1, 1), (15, .ireturn, 1), (16, .astore 4, 2), (18, .iconst 2, 1), (19, .ireturn, 1), (20, .iconst 0, 1), (21, .ireturn, 1)]
theorem dm_La_ways_0 : dl_La_ways_0.all (fun q => decide (decode cd_La_ways q.1 = .ok (q.2.1, q.2.2))) = true := by decide +kernel
theorem dc_La_ways_0 : decode cd_La_ways 0 = .ok (.aload_n 3, 1) := dq_at (q := (0, .aload_n 3, 1)) dm_La_ways_0 0 rfl
theorem dc_La_ways_1 : decode cd_La_ways 1 = .ok (.iconst 0, 1) := dq_at (q := (1, .iconst 0, 1)) dm_La_ways_0 1 rfl
theorem dc_La_ways_2 : decode cd_La_ways 2 = .ok (.aload_n 0, 1) := dq_at (q := (2, .aload_n 0, 1)) dm_La_ways_0 2 rfl
theorem dc_La_ways_3 : decode cd_La_ways 3 = .ok (.iload_n 1, 1) := dq_at (q := (3, .iload_n 1, 1)) dm_La_ways_0 3 rfl
theorem dc_La_ways_4 : decode cd_La_ways 4 = .ok (.iload_n 2, 1) := dq_at (q := (4, .iload_n 2, 1)) dm_La_ways_0 4 rfl
theorem dc_La_ways_5 : decode cd_La_ways 5 = .ok (.invokevirtual 58, 3) := dq_at (q := (5, .invokevirtual 58, 3)) dm_La_ways_0 5 rfl
theorem dc_La_ways_8 : decode cd_La_ways 8 = .ok (.lastore, 1) := dq_at (q := (8, .lastore, 1)) dm_La_ways_0 6 rfl
theorem dc_La_ways_9 : decode cd_La_ways 9 = .ok (.goto 11, 3) := dq_at (q := (9, .goto 11, 3)) dm_La_ways_0 7 rfl
theorem dc_La_ways_12 : decode cd_La_ways 12 = .ok (.astore 4, 2) := dq_at (q := (12, .astore 4, 2)) dm_La_ways_0 8 rfl
theorem dc_La_ways_14 : decode cd_La_ways 14 = .ok (.iconst 1, 1) := dq_at (q := (14, .iconst 1, 1)) dm_La_ways_0 9 rfl
theorem dc_La_ways_15 : decode cd_La_ways 15 = .ok (.ireturn, 1) := dq_at (q := (15, .ireturn, 1)) dm_La_ways_0 10 rfl
theorem dc_La_ways_16 : decode cd_La_ways 16 = .ok (.astore 4, 2) := dq_at (q := (16, .astore 4, 2)) dm_La_ways_0 11 rfl
theorem dc_La_ways_18 : decode cd_La_ways 18 = .ok (.iconst 2, 1) := dq_at (q := (18, .iconst 2, 1)) dm_La_ways_0 12 rfl
theorem dc_La_ways_19 : decode cd_La_ways 19 = .ok (.ireturn, 1) := dq_at (q := (19, .ireturn, 1)) dm_La_ways_0 13 rfl
theorem dc_La_ways_20 : decode cd_La_ways 20 = .ok (.iconst 0, 1) := dq_at (q := (20, .iconst 0, 1)) dm_La_ways_0 14 rfl
theorem dc_La_ways_21 : decode cd_La_ways 21 = .ok (.ireturn, 1) := dq_at (q := (21, .ireturn, 1)) dm_La_ways_0 15 rfl
def dl_La_circle_0 : List (Nat × Instr × Nat) := [(0, .aload_n 3, 1), (1, .iconst 0, 1), (2, .aload_n 0, 1), (3, .iload_n 1, 1), (4, .iload_n 2, 1), (5, .invokevirtual 64, 3), (8, .i2l, 1), (9, .lastore, 1), (10, .goto 11, 3), (13, .astore 4, 2), (15, .iconst 1, 1), (16, .ireturn, 1), (17, .astore 4, 2), (19, .iconst 2, 1), (20, .ireturn, 1), (21, .iconst 0, 1), (22, .ireturn, 1)]
theorem dm_La_circle_0 : dl_La_circle_0.all (fun q => decide (decode cd_La_circle q.1 = .ok (q.2.1, q.2.2))) = true := by decide +kernel
theorem dc_La_circle_0 : decode cd_La_circle 0 = .ok (.aload_n 3, 1) := dq_at (q := (0, .aload_n 3, 1)) dm_La_circle_0 0 rfl
theorem dc_La_circle_1 : decode cd_La_circle 1 = .ok (.iconst 0, 1) := dq_at (q := (1, .iconst 0, 1)) dm_La_circle_0 1 rfl
theorem dc_La_circle_2 : decode cd_La_circle 2 = .ok (.aload_n 0, 1) := dq_at (q := (2, .aload_n 0, 1)) dm_La_circle_0 2 rfl
theorem dc_La_circle_3 : decode cd_La_circle 3 = .ok (.iload_n 1, 1) := dq_at (q := (3, .iload_n 1, 1)) dm_La_circle_0 3 rfl
theorem dc_La_circle_4 : decode cd_La_circle 4 = .ok (.iload_n 2, 1) := dq_at (q := (4, .iload_n 2, 1)) dm_La_circle_0 4 rfl
theorem dc_La_circle_5 : decode cd_La_circle 5 = .ok (.invokevirtual 64, 3) := dq_at (q := (5, .invokevirtual 64, 3)) dm_La_circle_0 5 rfl
theorem dc_La_circle_8 : decode cd_La_circle 8 = .ok (.i2l, 1) := dq_at (q := (8, .i2l, 1)) dm_La_circle_0 6 rfl
theorem dc_La_circle_9 : decode cd_La_circle 9 = .ok (.lastore, 1) := dq_at (q := (9, .lastore, 1)) dm_La_circle_0 7 rfl
theorem dc_La_circle_10 : decode cd_La_circle 10 = .ok (.goto 11, 3) := dq_at (q := (10, .goto 11, 3)) dm_La_circle_0 8 rfl
theorem dc_La_circle_13 : decode cd_La_circle 13 = .ok (.astore 4, 2) := dq_at (q := (13, .astore 4, 2)) dm_La_circle_0 9 rfl
theorem dc_La_circle_15 : decode cd_La_circle 15 = .ok (.iconst 1, 1) := dq_at (q := (15, .iconst 1, 1)) dm_La_circle_0 10 rfl
theorem dc_La_circle_16 : decode cd_La_circle 16 = .ok (.ireturn, 1) := dq_at (q := (16, .ireturn, 1)) dm_La_circle_0 11 rfl
theorem dc_La_circle_17 : decode cd_La_circle 17 = .ok (.astore 4, 2) := dq_at (q := (17, .astore 4, 2)) dm_La_circle_0 12 rfl
theorem dc_La_circle_19 : decode cd_La_circle 19 = .ok (.iconst 2, 1) := dq_at (q := (19, .iconst 2, 1)) dm_La_circle_0 13 rfl
theorem dc_La_circle_20 : decode cd_La_circle 20 = .ok (.ireturn, 1) := dq_at (q := (20, .ireturn, 1)) dm_La_circle_0 14 rfl
theorem dc_La_circle_21 : decode cd_La_circle 21 = .ok (.iconst 0, 1) := dq_at (q := (21, .iconst 0, 1)) dm_La_circle_0 15 rfl
theorem dc_La_circle_22 : decode cd_La_circle 22 = .ok (.ireturn, 1) := dq_at (q := (22, .ireturn, 1)) dm_La_circle_0 16 rfl
def dl_La_median_0 : List (Nat × Instr × Nat) := [(0, .aload 4, 2), (2, .iconst 0, 1), (3, .aload_n 0, 1), (4, .iload_n 1, 1), (5, .iload_n 2, 1), (6, .iload_n 3, 1), (7, .invokevirtual 67, 3), (10, .i2l, 1), (11, .lastore, 1), (12, .goto 11, 3), (15, .astore 5, 2), (17, .iconst 1, 1), (18, .ireturn, 1), (19, .astore 5, 2), (21, .iconst 2, 1), (22, .ireturn, 1), (23, .iconst 0, 1), (24, .ireturn, 1)]
theorem dm_La_median_0 : dl_La_median_0.all (fun q => decide (decode cd_La_median q.1 = .ok (q.2.1, q.2.2))) = true := by decide +kernel
theorem dc_La_median_0 : decode cd_La_median 0 = .ok (.aload 4, 2) := dq_at (q := (0, .aload 4, 2)) dm_La_median_0 0 rfl
theorem dc_La_median_2 : decode cd_La_median 2 = .ok (.iconst 0, 1) := dq_at (q := (2, .iconst 0, 1)) dm_La_median_0 1 rfl
theorem dc_La_median_3 : decode cd_La_median 3 = .ok (.aload_n 0, 1) := dq_at (q := (3, .aload_n 0, 1)) dm_La_median_0 2 rfl
theorem dc_La_median_4 : decode cd_La_median 4 = .ok (.iload_n 1, 1) := dq_at (q := (4, .iload_n 1, 1)) dm_La_median_0 3 rfl
theorem dc_La_median_5 : decode cd_La_median 5 = .ok (.iload_n 2, 1) := dq_at (q := (5, .iload_n 2, 1)) dm_La_median_0 4 rfl
theorem dc_La_median_6 : decode cd_La_median 6 = .ok (.iload_n 3, 1) := dq_at (q := (6, .iload_n 3, 1)) dm_La_median_0 5 rfl
theorem dc_La_median_7 : decode cd_La_median 7 = .ok (.invokevirtual 67, 3) := dq_at (q := (7, .invokevirtual 67, 3)) dm_La_median_0 6 rfl
theorem dc_La_median_10 : decode cd_La_median 10 = .ok (.i2l, 1) := dq_at (q := (10, .i2l, 1)) dm_La_median_0 7 rfl
theorem dc_La_median_11 : decode cd_La_median 11 = .ok (.lastore, 1) := dq_at (q := (11, .lastore, 1)) dm_La_median_0 8 rfl
theorem dc_La_median_12 : decode cd_La_median 12 = .ok (.goto 11, 3) := dq_at (q := (12, .goto 11, 3)) dm_La_median_0 9 rfl
theorem dc_La_median_15 : decode cd_La_median 15 = .ok (.astore 5, 2) := dq_at (q := (15, .astore 5, 2)) dm_La_median_0 10 rfl
theorem dc_La_median_17 : decode cd_La_median 17 = .ok (.iconst 1, 1) := dq_at (q := (17, .iconst 1, 1)) dm_La_median_0 11 rfl
theorem dc_La_median_18 : decode cd_La_median 18 = .ok (.ireturn, 1) := dq_at (q := (18, .ireturn, 1)) dm_La_median_0 12 rfl
theorem dc_La_median_19 : decode cd_La_median 19 = .ok (.astore 5, 2) := dq_at (q := (19, .astore 5, 2)) dm_La_median_0 13 rfl
theorem dc_La_median_21 : decode cd_La_median 21 = .ok (.iconst 2, 1) := dq_at (q := (21, .iconst 2, 1)) dm_La_median_0 14 rfl
theorem dc_La_median_22 : decode cd_La_median 22 = .ok (.ireturn, 1) := dq_at (q := (22, .ireturn, 1)) dm_La_median_0 15 rfl
theorem dc_La_median_23 : decode cd_La_median 23 = .ok (.iconst 0, 1) := dq_at (q := (23, .iconst 0, 1)) dm_La_median_0 16 rfl
theorem dc_La_median_24 : decode cd_La_median 24 = .ok (.ireturn, 1) := dq_at (q := (24, .ireturn, 1)) dm_La_median_0 17 rfl
def dl_La_law_0 : List (Nat × Instr × Nat) := [(0, .new 8, 3), (3, .dup, 1), (4, .invokespecial 70, 3), (7, .astore_n 1, 1), (8, .new 71, 3), (11, .dup, 1), (12, .invokespecial 73, 3), (15, .astore_n 2, 1), (16, .iconst 1, 1), (17, .newarray .long, 2), (19, .astore_n 3, 1), (20, .iconst 0, 1), (21, .istore 4, 2), (23, .iload 4, 2), (25, .aload_n 0, 1), (26, .arraylength, 1), (27, .iconst 4, 1), (28, .isub, 1), (29, .if_icmp .gt 1145, 3), (32, .aload_n 0, 1), (33, .iload 4, 2), (35, .iaload, 1), (36, .bipush 31, 2), (38, .iand, 1), (39, .tableswitch 1129 0 16 #[81, 117, 174, 187, 243, 311, 359, 419, 482, 550, 630, 710, 790, 858, 914, 981, 1049], 81), (120, .aload_n 1, 1), (121, .aload_n 0, 1), (122, .iload 4, 2), (124, .iconst 1, 1), (125, .iadd, 1), (126, .iaload, 1), (127, .invokestatic 74, 3), (130, .istore 5, 2), (132, .aload_n 2, 1), (133, .aload_n 0, 1), (134, .iload 4, 2), (136, .iconst 1, 1), (137, .iadd, 1), (138, .iaload, 1), (139, .invokevirtual 79, 3), (142, .aload_n 2, 1), (143, .invokevirtual 80, 3), (146, .iload 5, 2), (148, .if_icmp .eq 5, 3), (151, .iconst 0, 1), (152, .ireturn, 1), (153, .goto 1015, 3), (156, .aload_n 1, 1), (157, .aload_n 0, 1), (158, .iload 4, 2), (160, .iconst 1, 1), (161, .iadd, 1), (162, .iaload, 1), (163, .i2l, 1), (164, .bipush 32, 2), (166, .lshl, 1), (167, .aload_n 0, 1), (168, .iload 4, 2), (170, .iconst 2, 1), (171, .iadd, 1)]
theorem dm_La_law_0 : dl_La_law_0.all (fun q => decide (decode code q.1 = .ok (q.2.1, q.2.2))) = true := by decide +kernel
theorem dc_La_law_0 : decode code 0 = .ok (.new 8, 3) := dq_at (q := (0, .new 8, 3)) dm_La_law_0 0 rfl
theorem dc_La_law_3 : decode code 3 = .ok (.dup, 1) := dq_at (q := (3, .dup, 1)) dm_La_law_0 1 rfl
theorem dc_La_law_4 : decode code 4 = .ok (.invokespecial 70, 3) := dq_at (q := (4, .invokespecial 70, 3)) dm_La_law_0 2 rfl
theorem dc_La_law_7 : decode code 7 = .ok (.astore_n 1, 1) := dq_at (q := (7, .astore_n 1, 1)) dm_La_law_0 3 rfl
theorem dc_La_law_8 : decode code 8 = .ok (.new 71, 3) := dq_at (q := (8, .new 71, 3)) dm_La_law_0 4 rfl
theorem dc_La_law_11 : decode code 11 = .ok (.dup, 1) := dq_at (q := (11, .dup, 1)) dm_La_law_0 5 rfl
theorem dc_La_law_12 : decode code 12 = .ok (.invokespecial 73, 3) := dq_at (q := (12, .invokespecial 73, 3)) dm_La_law_0 6 rfl
theorem dc_La_law_15 : decode code 15 = .ok (.astore_n 2, 1) := dq_at (q := (15, .astore_n 2, 1)) dm_La_law_0 7 rfl
theorem dc_La_law_16 : decode code 16 = .ok (.iconst 1, 1) := dq_at (q := (16, .iconst 1, 1)) dm_La_law_0 8 rfl
theorem dc_La_law_17 : decode code 17 = .ok (.newarray .long, 2) := dq_at (q := (17, .newarray .long, 2)) dm_La_law_0 9 rfl
theorem dc_La_law_19 : decode code 19 = .ok (.astore_n 3, 1) := dq_at (q := (19, .astore_n 3, 1)) dm_La_law_0 10 rfl
theorem dc_La_law_20 : decode code 20 = .ok (.iconst 0, 1) := dq_at (q := (20, .iconst 0, 1)) dm_La_law_0 11 rfl
theorem dc_La_law_21 : decode code 21 = .ok (.istore 4, 2) := dq_at (q := (21, .istore 4, 2)) dm_La_law_0 12 rfl
theorem dc_La_law_23 : decode code 23 = .ok (.iload 4, 2) := dq_at (q := (23, .iload 4, 2)) dm_La_law_0 13 rfl
theorem dc_La_law_25 : decode code 25 = .ok (.aload_n 0, 1) := dq_at (q := (25, .aload_n 0, 1)) dm_La_law_0 14 rfl
theorem dc_La_law_26 : decode code 26 = .ok (.arraylength, 1) := dq_at (q := (26, .arraylength, 1)) dm_La_law_0 15 rfl
theorem dc_La_law_27 : decode code 27 = .ok (.iconst 4, 1) := dq_at (q := (27, .iconst 4, 1)) dm_La_law_0 16 rfl
theorem dc_La_law_28 : decode code 28 = .ok (.isub, 1) := dq_at (q := (28, .isub, 1)) dm_La_law_0 17 rfl
theorem dc_La_law_29 : decode code 29 = .ok (.if_icmp .gt 1145, 3) := dq_at (q := (29, .if_icmp .gt 1145, 3)) dm_La_law_0 18 rfl
theorem dc_La_law_32 : decode code 32 = .ok (.aload_n 0, 1) := dq_at (q := (32, .aload_n 0, 1)) dm_La_law_0 19 rfl
theorem dc_La_law_33 : decode code 33 = .ok (.iload 4, 2) := dq_at (q := (33, .iload 4, 2)) dm_La_law_0 20 rfl
theorem dc_La_law_35 : decode code 35 = .ok (.iaload, 1) := dq_at (q := (35, .iaload, 1)) dm_La_law_0 21 rfl
theorem dc_La_law_36 : decode code 36 = .ok (.bipush 31, 2) := dq_at (q := (36, .bipush 31, 2)) dm_La_law_0 22 rfl
theorem dc_La_law_38 : decode code 38 = .ok (.iand, 1) := dq_at (q := (38, .iand, 1)) dm_La_law_0 23 rfl
theorem dc_La_law_39 : decode code 39 = .ok (.tableswitch 1129 0 16 #[81, 117, 174, 187, 243, 311, 359, 419, 482, 550, 630, 710, 790, 858, 914, 981, 1049], 81) := dq_at (q := (39, .tableswitch 1129 0 16 #[81, 117, 174, 187, 243, 311, 359, 419, 482, 550, 630, 710, 790, 858, 914, 981, 1049], 81)) dm_La_law_0 24 rfl
theorem dc_La_law_120 : decode code 120 = .ok (.aload_n 1, 1) := dq_at (q := (120, .aload_n 1, 1)) dm_La_law_0 25 rfl
theorem dc_La_law_121 : decode code 121 = .ok (.aload_n 0, 1) := dq_at (q := (121, .aload_n 0, 1)) dm_La_law_0 26 rfl
theorem dc_La_law_122 : decode code 122 = .ok (.iload 4, 2) := dq_at (q := (122, .iload 4, 2)) dm_La_law_0 27 rfl
theorem dc_La_law_124 : decode code 124 = .ok (.iconst 1, 1) := dq_at (q := (124, .iconst 1, 1)) dm_La_law_0 28 rfl
theorem dc_La_law_125 : decode code 125 = .ok (.iadd, 1) := dq_at (q := (125, .iadd, 1)) dm_La_law_0 29 rfl
theorem dc_La_law_126 : decode code 126 = .ok (.iaload, 1) := dq_at (q := (126, .iaload, 1)) dm_La_law_0 30 rfl
theorem dc_La_law_127 : decode code 127 = .ok (.invokestatic 74, 3) := dq_at (q := (127, .invokestatic 74, 3)) dm_La_law_0 31 rfl
theorem dc_La_law_130 : decode code 130 = .ok (.istore 5, 2) := dq_at (q := (130, .istore 5, 2)) dm_La_law_0 32 rfl
theorem dc_La_law_132 : decode code 132 = .ok (.aload_n 2, 1) := dq_at (q := (132, .aload_n 2, 1)) dm_La_law_0 33 rfl
theorem dc_La_law_133 : decode code 133 = .ok (.aload_n 0, 1) := dq_at (q := (133, .aload_n 0, 1)) dm_La_law_0 34 rfl
theorem dc_La_law_134 : decode code 134 = .ok (.iload 4, 2) := dq_at (q := (134, .iload 4, 2)) dm_La_law_0 35 rfl
theorem dc_La_law_136 : decode code 136 = .ok (.iconst 1, 1) := dq_at (q := (136, .iconst 1, 1)) dm_La_law_0 36 rfl
theorem dc_La_law_137 : decode code 137 = .ok (.iadd, 1) := dq_at (q := (137, .iadd, 1)) dm_La_law_0 37 rfl
theorem dc_La_law_138 : decode code 138 = .ok (.iaload, 1) := dq_at (q := (138, .iaload, 1)) dm_La_law_0 38 rfl
theorem dc_La_law_139 : decode code 139 = .ok (.invokevirtual 79, 3) := dq_at (q := (139, .invokevirtual 79, 3)) dm_La_law_0 39 rfl
theorem dc_La_law_142 : decode code 142 = .ok (.aload_n 2, 1) := dq_at (q := (142, .aload_n 2, 1)) dm_La_law_0 40 rfl
theorem dc_La_law_143 : decode code 143 = .ok (.invokevirtual 80, 3) := dq_at (q := (143, .invokevirtual 80, 3)) dm_La_law_0 41 rfl
theorem dc_La_law_146 : decode code 146 = .ok (.iload 5, 2) := dq_at (q := (146, .iload 5, 2)) dm_La_law_0 42 rfl
theorem dc_La_law_148 : decode code 148 = .ok (.if_icmp .eq 5, 3) := dq_at (q := (148, .if_icmp .eq 5, 3)) dm_La_law_0 43 rfl
theorem dc_La_law_151 : decode code 151 = .ok (.iconst 0, 1) := dq_at (q := (151, .iconst 0, 1)) dm_La_law_0 44 rfl
theorem dc_La_law_152 : decode code 152 = .ok (.ireturn, 1) := dq_at (q := (152, .ireturn, 1)) dm_La_law_0 45 rfl
theorem dc_La_law_153 : decode code 153 = .ok (.goto 1015, 3) := dq_at (q := (153, .goto 1015, 3)) dm_La_law_0 46 rfl
theorem dc_La_law_156 : decode code 156 = .ok (.aload_n 1, 1) := dq_at (q := (156, .aload_n 1, 1)) dm_La_law_0 47 rfl
theorem dc_La_law_157 : decode code 157 = .ok (.aload_n 0, 1) := dq_at (q := (157, .aload_n 0, 1)) dm_La_law_0 48 rfl
theorem dc_La_law_158 : decode code 158 = .ok (.iload 4, 2) := dq_at (q := (158, .iload 4, 2)) dm_La_law_0 49 rfl
theorem dc_La_law_160 : decode code 160 = .ok (.iconst 1, 1) := dq_at (q := (160, .iconst 1, 1)) dm_La_law_0 50 rfl
theorem dc_La_law_161 : decode code 161 = .ok (.iadd, 1) := dq_at (q := (161, .iadd, 1)) dm_La_law_0 51 rfl
theorem dc_La_law_162 : decode code 162 = .ok (.iaload, 1) := dq_at (q := (162, .iaload, 1)) dm_La_law_0 52 rfl
theorem dc_La_law_163 : decode code 163 = .ok (.i2l, 1) := dq_at (q := (163, .i2l, 1)) dm_La_law_0 53 rfl
theorem dc_La_law_164 : decode code 164 = .ok (.bipush 32, 2) := dq_at (q := (164, .bipush 32, 2)) dm_La_law_0 54 rfl
theorem dc_La_law_166 : decode code 166 = .ok (.lshl, 1) := dq_at (q := (166, .lshl, 1)) dm_La_law_0 55 rfl
theorem dc_La_law_167 : decode code 167 = .ok (.aload_n 0, 1) := dq_at (q := (167, .aload_n 0, 1)) dm_La_law_0 56 rfl
theorem dc_La_law_168 : decode code 168 = .ok (.iload 4, 2) := dq_at (q := (168, .iload 4, 2)) dm_La_law_0 57 rfl
theorem dc_La_law_170 : decode code 170 = .ok (.iconst 2, 1) := dq_at (q := (170, .iconst 2, 1)) dm_La_law_0 58 rfl
theorem dc_La_law_171 : decode code 171 = .ok (.iadd, 1) := dq_at (q := (171, .iadd, 1)) dm_La_law_0 59 rfl
def dl_La_law_60 : List (Nat × Instr × Nat) := [(172, .iaload, 1), (173, .i2l, 1), (174, .ldc2_w 84, 3), (177, .land, 1), (178, .lor, 1), (179, .invokevirtual 86, 3), (182, .aload_n 2, 1), (183, .aload_n 0, 1), (184, .iload 4, 2), (186, .iconst 1, 1), (187, .iadd, 1), (188, .iaload, 1), (189, .i2l, 1), (190, .bipush 32, 2), (192, .lshl, 1), (193, .aload_n 0, 1), (194, .iload 4, 2), (196, .iconst 2, 1), (197, .iadd, 1), (198, .iaload, 1), (199, .i2l, 1), (200, .ldc2_w 84, 3), (203, .land, 1), (204, .lor, 1), (205, .invokevirtual 90, 3), (208, .if_icmp .eq 960, 3), (211, .iconst 0, 1), (212, .ireturn, 1), (213, .aload_n 1, 1), (214, .invokevirtual 91, 3), (217, .aload_n 2, 1), (218, .invokevirtual 94, 3), (221, .if_icmp .eq 947, 3), (224, .iconst 0, 1), (225, .ireturn, 1), (226, .aload_n 1, 1), (227, .aload_n 0, 1), (228, .iload 4, 2), (230, .iconst 1, 1), (231, .iadd, 1), (232, .iaload, 1), (233, .aload_n 3, 1), (234, .invokestatic 95, 3), (237, .istore 5, 2), (239, .aload_n 2, 1), (240, .aload_n 0, 1), (241, .iload 4, 2), (243, .iconst 1, 1), (244, .iadd, 1), (245, .iaload, 1), (246, .invokevirtual 98, 3), (249, .istore 6, 2), (251, .aload_n 2, 1), (252, .invokevirtual 80, 3), (255, .iload 5, 2), (257, .if_icmp .eq 5, 3), (260, .iconst 0, 1), (261, .ireturn, 1), (262, .iload 5, 2), (264, .ifCond .ne 15, 3)]
theorem dm_La_law_60 : dl_La_law_60.all (fun q => decide (decode code q.1 = .ok (q.2.1, q.2.2))) = true := by decide +kernel
theorem dc_La_law_172 : decode code 172 = .ok (.iaload, 1) := dq_at (q := (172, .iaload, 1)) dm_La_law_60 0 rfl
theorem dc_La_law_173 : decode code 173 = .ok (.i2l, 1) := dq_at (q := (173, .i2l, 1)) dm_La_law_60 1 rfl
theorem dc_La_law_174 : decode code 174 = .ok (.ldc2_w 84, 3) := dq_at (q := (174, .ldc2_w 84, 3)) dm_La_law_60 2 rfl
theorem dc_La_law_177 : decode code 177 = .ok (.land, 1) := dq_at (q := (177, .land, 1)) dm_La_law_60 3 rfl
theorem dc_La_law_178 : decode code 178 = .ok (.lor, 1) := dq_at (q := (178, .lor, 1)) dm_La_law_60 4 rfl
theorem dc_La_law_179 : decode code 179 = .ok (.invokevirtual 86, 3) := dq_at (q := (179, .invokevirtual 86, 3)) dm_La_law_60 5 rfl
theorem dc_La_law_182 : decode code 182 = .ok (.aload_n 2, 1) := dq_at (q := (182, .aload_n 2, 1)) dm_La_law_60 6 rfl
theorem dc_La_law_183 : decode code 183 = .ok (.aload_n 0, 1) := dq_at (q := (183, .aload_n 0, 1)) dm_La_law_60 7 rfl
theorem dc_La_law_184 : decode code 184 = .ok (.iload 4, 2) := dq_at (q := (184, .iload 4, 2)) dm_La_law_60 8 rfl
theorem dc_La_law_186 : decode code 186 = .ok (.iconst 1, 1) := dq_at (q := (186, .iconst 1, 1)) dm_La_law_60 9 rfl
theorem dc_La_law_187 : decode code 187 = .ok (.iadd, 1) := dq_at (q := (187, .iadd, 1)) dm_La_law_60 10 rfl
theorem dc_La_law_188 : decode code 188 = .ok (.iaload, 1) := dq_at (q := (188, .iaload, 1)) dm_La_law_60 11 rfl
theorem dc_La_law_189 : decode code 189 = .ok (.i2l, 1) := dq_at (q := (189, .i2l, 1)) dm_La_law_60 12 rfl
theorem dc_La_law_190 : decode code 190 = .ok (.bipush 32, 2) := dq_at (q := (190, .bipush 32, 2)) dm_La_law_60 13 rfl
theorem dc_La_law_192 : decode code 192 = .ok (.lshl, 1) := dq_at (q := (192, .lshl, 1)) dm_La_law_60 14 rfl
theorem dc_La_law_193 : decode code 193 = .ok (.aload_n 0, 1) := dq_at (q := (193, .aload_n 0, 1)) dm_La_law_60 15 rfl
theorem dc_La_law_194 : decode code 194 = .ok (.iload 4, 2) := dq_at (q := (194, .iload 4, 2)) dm_La_law_60 16 rfl
theorem dc_La_law_196 : decode code 196 = .ok (.iconst 2, 1) := dq_at (q := (196, .iconst 2, 1)) dm_La_law_60 17 rfl
theorem dc_La_law_197 : decode code 197 = .ok (.iadd, 1) := dq_at (q := (197, .iadd, 1)) dm_La_law_60 18 rfl
theorem dc_La_law_198 : decode code 198 = .ok (.iaload, 1) := dq_at (q := (198, .iaload, 1)) dm_La_law_60 19 rfl
theorem dc_La_law_199 : decode code 199 = .ok (.i2l, 1) := dq_at (q := (199, .i2l, 1)) dm_La_law_60 20 rfl
theorem dc_La_law_200 : decode code 200 = .ok (.ldc2_w 84, 3) := dq_at (q := (200, .ldc2_w 84, 3)) dm_La_law_60 21 rfl
theorem dc_La_law_203 : decode code 203 = .ok (.land, 1) := dq_at (q := (203, .land, 1)) dm_La_law_60 22 rfl
theorem dc_La_law_204 : decode code 204 = .ok (.lor, 1) := dq_at (q := (204, .lor, 1)) dm_La_law_60 23 rfl
theorem dc_La_law_205 : decode code 205 = .ok (.invokevirtual 90, 3) := dq_at (q := (205, .invokevirtual 90, 3)) dm_La_law_60 24 rfl
theorem dc_La_law_208 : decode code 208 = .ok (.if_icmp .eq 960, 3) := dq_at (q := (208, .if_icmp .eq 960, 3)) dm_La_law_60 25 rfl
theorem dc_La_law_211 : decode code 211 = .ok (.iconst 0, 1) := dq_at (q := (211, .iconst 0, 1)) dm_La_law_60 26 rfl
theorem dc_La_law_212 : decode code 212 = .ok (.ireturn, 1) := dq_at (q := (212, .ireturn, 1)) dm_La_law_60 27 rfl
theorem dc_La_law_213 : decode code 213 = .ok (.aload_n 1, 1) := dq_at (q := (213, .aload_n 1, 1)) dm_La_law_60 28 rfl
theorem dc_La_law_214 : decode code 214 = .ok (.invokevirtual 91, 3) := dq_at (q := (214, .invokevirtual 91, 3)) dm_La_law_60 29 rfl
theorem dc_La_law_217 : decode code 217 = .ok (.aload_n 2, 1) := dq_at (q := (217, .aload_n 2, 1)) dm_La_law_60 30 rfl
theorem dc_La_law_218 : decode code 218 = .ok (.invokevirtual 94, 3) := dq_at (q := (218, .invokevirtual 94, 3)) dm_La_law_60 31 rfl
theorem dc_La_law_221 : decode code 221 = .ok (.if_icmp .eq 947, 3) := dq_at (q := (221, .if_icmp .eq 947, 3)) dm_La_law_60 32 rfl
theorem dc_La_law_224 : decode code 224 = .ok (.iconst 0, 1) := dq_at (q := (224, .iconst 0, 1)) dm_La_law_60 33 rfl
theorem dc_La_law_225 : decode code 225 = .ok (.ireturn, 1) := dq_at (q := (225, .ireturn, 1)) dm_La_law_60 34 rfl
theorem dc_La_law_226 : decode code 226 = .ok (.aload_n 1, 1) := dq_at (q := (226, .aload_n 1, 1)) dm_La_law_60 35 rfl
theorem dc_La_law_227 : decode code 227 = .ok (.aload_n 0, 1) := dq_at (q := (227, .aload_n 0, 1)) dm_La_law_60 36 rfl
theorem dc_La_law_228 : decode code 228 = .ok (.iload 4, 2) := dq_at (q := (228, .iload 4, 2)) dm_La_law_60 37 rfl
theorem dc_La_law_230 : decode code 230 = .ok (.iconst 1, 1) := dq_at (q := (230, .iconst 1, 1)) dm_La_law_60 38 rfl
theorem dc_La_law_231 : decode code 231 = .ok (.iadd, 1) := dq_at (q := (231, .iadd, 1)) dm_La_law_60 39 rfl
theorem dc_La_law_232 : decode code 232 = .ok (.iaload, 1) := dq_at (q := (232, .iaload, 1)) dm_La_law_60 40 rfl
theorem dc_La_law_233 : decode code 233 = .ok (.aload_n 3, 1) := dq_at (q := (233, .aload_n 3, 1)) dm_La_law_60 41 rfl
theorem dc_La_law_234 : decode code 234 = .ok (.invokestatic 95, 3) := dq_at (q := (234, .invokestatic 95, 3)) dm_La_law_60 42 rfl
theorem dc_La_law_237 : decode code 237 = .ok (.istore 5, 2) := dq_at (q := (237, .istore 5, 2)) dm_La_law_60 43 rfl
theorem dc_La_law_239 : decode code 239 = .ok (.aload_n 2, 1) := dq_at (q := (239, .aload_n 2, 1)) dm_La_law_60 44 rfl
theorem dc_La_law_240 : decode code 240 = .ok (.aload_n 0, 1) := dq_at (q := (240, .aload_n 0, 1)) dm_La_law_60 45 rfl
theorem dc_La_law_241 : decode code 241 = .ok (.iload 4, 2) := dq_at (q := (241, .iload 4, 2)) dm_La_law_60 46 rfl
theorem dc_La_law_243 : decode code 243 = .ok (.iconst 1, 1) := dq_at (q := (243, .iconst 1, 1)) dm_La_law_60 47 rfl
theorem dc_La_law_244 : decode code 244 = .ok (.iadd, 1) := dq_at (q := (244, .iadd, 1)) dm_La_law_60 48 rfl
theorem dc_La_law_245 : decode code 245 = .ok (.iaload, 1) := dq_at (q := (245, .iaload, 1)) dm_La_law_60 49 rfl
theorem dc_La_law_246 : decode code 246 = .ok (.invokevirtual 98, 3) := dq_at (q := (246, .invokevirtual 98, 3)) dm_La_law_60 50 rfl
theorem dc_La_law_249 : decode code 249 = .ok (.istore 6, 2) := dq_at (q := (249, .istore 6, 2)) dm_La_law_60 51 rfl
theorem dc_La_law_251 : decode code 251 = .ok (.aload_n 2, 1) := dq_at (q := (251, .aload_n 2, 1)) dm_La_law_60 52 rfl
theorem dc_La_law_252 : decode code 252 = .ok (.invokevirtual 80, 3) := dq_at (q := (252, .invokevirtual 80, 3)) dm_La_law_60 53 rfl
theorem dc_La_law_255 : decode code 255 = .ok (.iload 5, 2) := dq_at (q := (255, .iload 5, 2)) dm_La_law_60 54 rfl
theorem dc_La_law_257 : decode code 257 = .ok (.if_icmp .eq 5, 3) := dq_at (q := (257, .if_icmp .eq 5, 3)) dm_La_law_60 55 rfl
theorem dc_La_law_260 : decode code 260 = .ok (.iconst 0, 1) := dq_at (q := (260, .iconst 0, 1)) dm_La_law_60 56 rfl
theorem dc_La_law_261 : decode code 261 = .ok (.ireturn, 1) := dq_at (q := (261, .ireturn, 1)) dm_La_law_60 57 rfl
theorem dc_La_law_262 : decode code 262 = .ok (.iload 5, 2) := dq_at (q := (262, .iload 5, 2)) dm_La_law_60 58 rfl
theorem dc_La_law_264 : decode code 264 = .ok (.ifCond .ne 15, 3) := dq_at (q := (264, .ifCond .ne 15, 3)) dm_La_law_60 59 rfl
def dl_La_law_120 : List (Nat × Instr × Nat) := [(267, .aload_n 3, 1), (268, .iconst 0, 1), (269, .laload, 1), (270, .iload 6, 2), (272, .i2l, 1), (273, .lcmp, 1), (274, .ifCond .eq 5, 3), (277, .iconst 0, 1), (278, .ireturn, 1), (279, .goto 889, 3), (282, .aload_n 1, 1), (283, .aload_n 0, 1), (284, .iload 4, 2), (286, .iconst 1, 1), (287, .iadd, 1), (288, .iaload, 1), (289, .aload_n 0, 1), (290, .iload 4, 2), (292, .iconst 2, 1), (293, .iadd, 1), (294, .iaload, 1), (295, .aload_n 3, 1), (296, .invokestatic 99, 3), (299, .istore 5, 2), (301, .aload_n 2, 1), (302, .aload_n 0, 1), (303, .iload 4, 2), (305, .iconst 1, 1), (306, .iadd, 1), (307, .iaload, 1), (308, .aload_n 0, 1), (309, .iload 4, 2), (311, .iconst 2, 1), (312, .iadd, 1), (313, .iaload, 1), (314, .invokevirtual 102, 3), (317, .istore 6, 2), (319, .aload_n 2, 1), (320, .invokevirtual 80, 3), (323, .iload 5, 2), (325, .if_icmp .eq 5, 3), (328, .iconst 0, 1), (329, .ireturn, 1), (330, .iload 5, 2), (332, .ifCond .ne 15, 3), (335, .aload_n 3, 1), (336, .iconst 0, 1), (337, .laload, 1), (338, .iload 6, 2), (340, .i2l, 1), (341, .lcmp, 1), (342, .ifCond .eq 5, 3), (345, .iconst 0, 1), (346, .ireturn, 1), (347, .goto 821, 3), (350, .aload_n 1, 1), (351, .aload_n 0, 1), (352, .iload 4, 2), (354, .iconst 1, 1), (355, .iadd, 1)]
theorem dm_La_law_120 : dl_La_law_120.all (fun q => decide (decode code q.1 = .ok (q.2.1, q.2.2))) = true := by decide +kernel
theorem dc_La_law_267 : decode code 267 = .ok (.aload_n 3, 1) := dq_at (q := (267, .aload_n 3, 1)) dm_La_law_120 0 rfl
theorem dc_La_law_268 : decode code 268 = .ok (.iconst 0, 1) := dq_at (q := (268, .iconst 0, 1)) dm_La_law_120 1 rfl
theorem dc_La_law_269 : decode code 269 = .ok (.laload, 1) := dq_at (q := (269, .laload, 1)) dm_La_law_120 2 rfl
theorem dc_La_law_270 : decode code 270 = .ok (.iload 6, 2) := dq_at (q := (270, .iload 6, 2)) dm_La_law_120 3 rfl
theorem dc_La_law_272 : decode code 272 = .ok (.i2l, 1) := dq_at (q := (272, .i2l, 1)) dm_La_law_120 4 rfl
theorem dc_La_law_273 : decode code 273 = .ok (.lcmp, 1) := dq_at (q := (273, .lcmp, 1)) dm_La_law_120 5 rfl
theorem dc_La_law_274 : decode code 274 = .ok (.ifCond .eq 5, 3) := dq_at (q := (274, .ifCond .eq 5, 3)) dm_La_law_120 6 rfl
theorem dc_La_law_277 : decode code 277 = .ok (.iconst 0, 1) := dq_at (q := (277, .iconst 0, 1)) dm_La_law_120 7 rfl
theorem dc_La_law_278 : decode code 278 = .ok (.ireturn, 1) := dq_at (q := (278, .ireturn, 1)) dm_La_law_120 8 rfl
theorem dc_La_law_279 : decode code 279 = .ok (.goto 889, 3) := dq_at (q := (279, .goto 889, 3)) dm_La_law_120 9 rfl
theorem dc_La_law_282 : decode code 282 = .ok (.aload_n 1, 1) := dq_at (q := (282, .aload_n 1, 1)) dm_La_law_120 10 rfl
theorem dc_La_law_283 : decode code 283 = .ok (.aload_n 0, 1) := dq_at (q := (283, .aload_n 0, 1)) dm_La_law_120 11 rfl
theorem dc_La_law_284 : decode code 284 = .ok (.iload 4, 2) := dq_at (q := (284, .iload 4, 2)) dm_La_law_120 12 rfl
theorem dc_La_law_286 : decode code 286 = .ok (.iconst 1, 1) := dq_at (q := (286, .iconst 1, 1)) dm_La_law_120 13 rfl
theorem dc_La_law_287 : decode code 287 = .ok (.iadd, 1) := dq_at (q := (287, .iadd, 1)) dm_La_law_120 14 rfl
theorem dc_La_law_288 : decode code 288 = .ok (.iaload, 1) := dq_at (q := (288, .iaload, 1)) dm_La_law_120 15 rfl
theorem dc_La_law_289 : decode code 289 = .ok (.aload_n 0, 1) := dq_at (q := (289, .aload_n 0, 1)) dm_La_law_120 16 rfl
theorem dc_La_law_290 : decode code 290 = .ok (.iload 4, 2) := dq_at (q := (290, .iload 4, 2)) dm_La_law_120 17 rfl
theorem dc_La_law_292 : decode code 292 = .ok (.iconst 2, 1) := dq_at (q := (292, .iconst 2, 1)) dm_La_law_120 18 rfl
theorem dc_La_law_293 : decode code 293 = .ok (.iadd, 1) := dq_at (q := (293, .iadd, 1)) dm_La_law_120 19 rfl
theorem dc_La_law_294 : decode code 294 = .ok (.iaload, 1) := dq_at (q := (294, .iaload, 1)) dm_La_law_120 20 rfl
theorem dc_La_law_295 : decode code 295 = .ok (.aload_n 3, 1) := dq_at (q := (295, .aload_n 3, 1)) dm_La_law_120 21 rfl
theorem dc_La_law_296 : decode code 296 = .ok (.invokestatic 99, 3) := dq_at (q := (296, .invokestatic 99, 3)) dm_La_law_120 22 rfl
theorem dc_La_law_299 : decode code 299 = .ok (.istore 5, 2) := dq_at (q := (299, .istore 5, 2)) dm_La_law_120 23 rfl
theorem dc_La_law_301 : decode code 301 = .ok (.aload_n 2, 1) := dq_at (q := (301, .aload_n 2, 1)) dm_La_law_120 24 rfl
theorem dc_La_law_302 : decode code 302 = .ok (.aload_n 0, 1) := dq_at (q := (302, .aload_n 0, 1)) dm_La_law_120 25 rfl
theorem dc_La_law_303 : decode code 303 = .ok (.iload 4, 2) := dq_at (q := (303, .iload 4, 2)) dm_La_law_120 26 rfl
theorem dc_La_law_305 : decode code 305 = .ok (.iconst 1, 1) := dq_at (q := (305, .iconst 1, 1)) dm_La_law_120 27 rfl
theorem dc_La_law_306 : decode code 306 = .ok (.iadd, 1) := dq_at (q := (306, .iadd, 1)) dm_La_law_120 28 rfl
theorem dc_La_law_307 : decode code 307 = .ok (.iaload, 1) := dq_at (q := (307, .iaload, 1)) dm_La_law_120 29 rfl
theorem dc_La_law_308 : decode code 308 = .ok (.aload_n 0, 1) := dq_at (q := (308, .aload_n 0, 1)) dm_La_law_120 30 rfl
theorem dc_La_law_309 : decode code 309 = .ok (.iload 4, 2) := dq_at (q := (309, .iload 4, 2)) dm_La_law_120 31 rfl
theorem dc_La_law_311 : decode code 311 = .ok (.iconst 2, 1) := dq_at (q := (311, .iconst 2, 1)) dm_La_law_120 32 rfl
theorem dc_La_law_312 : decode code 312 = .ok (.iadd, 1) := dq_at (q := (312, .iadd, 1)) dm_La_law_120 33 rfl
theorem dc_La_law_313 : decode code 313 = .ok (.iaload, 1) := dq_at (q := (313, .iaload, 1)) dm_La_law_120 34 rfl
theorem dc_La_law_314 : decode code 314 = .ok (.invokevirtual 102, 3) := dq_at (q := (314, .invokevirtual 102, 3)) dm_La_law_120 35 rfl
theorem dc_La_law_317 : decode code 317 = .ok (.istore 6, 2) := dq_at (q := (317, .istore 6, 2)) dm_La_law_120 36 rfl
theorem dc_La_law_319 : decode code 319 = .ok (.aload_n 2, 1) := dq_at (q := (319, .aload_n 2, 1)) dm_La_law_120 37 rfl
theorem dc_La_law_320 : decode code 320 = .ok (.invokevirtual 80, 3) := dq_at (q := (320, .invokevirtual 80, 3)) dm_La_law_120 38 rfl
theorem dc_La_law_323 : decode code 323 = .ok (.iload 5, 2) := dq_at (q := (323, .iload 5, 2)) dm_La_law_120 39 rfl
theorem dc_La_law_325 : decode code 325 = .ok (.if_icmp .eq 5, 3) := dq_at (q := (325, .if_icmp .eq 5, 3)) dm_La_law_120 40 rfl
theorem dc_La_law_328 : decode code 328 = .ok (.iconst 0, 1) := dq_at (q := (328, .iconst 0, 1)) dm_La_law_120 41 rfl
theorem dc_La_law_329 : decode code 329 = .ok (.ireturn, 1) := dq_at (q := (329, .ireturn, 1)) dm_La_law_120 42 rfl
theorem dc_La_law_330 : decode code 330 = .ok (.iload 5, 2) := dq_at (q := (330, .iload 5, 2)) dm_La_law_120 43 rfl
theorem dc_La_law_332 : decode code 332 = .ok (.ifCond .ne 15, 3) := dq_at (q := (332, .ifCond .ne 15, 3)) dm_La_law_120 44 rfl
theorem dc_La_law_335 : decode code 335 = .ok (.aload_n 3, 1) := dq_at (q := (335, .aload_n 3, 1)) dm_La_law_120 45 rfl
theorem dc_La_law_336 : decode code 336 = .ok (.iconst 0, 1) := dq_at (q := (336, .iconst 0, 1)) dm_La_law_120 46 rfl
theorem dc_La_law_337 : decode code 337 = .ok (.laload, 1) := dq_at (q := (337, .laload, 1)) dm_La_law_120 47 rfl
theorem dc_La_law_338 : decode code 338 = .ok (.iload 6, 2) := dq_at (q := (338, .iload 6, 2)) dm_La_law_120 48 rfl
theorem dc_La_law_340 : decode code 340 = .ok (.i2l, 1) := dq_at (q := (340, .i2l, 1)) dm_La_law_120 49 rfl
theorem dc_La_law_341 : decode code 341 = .ok (.lcmp, 1) := dq_at (q := (341, .lcmp, 1)) dm_La_law_120 50 rfl
theorem dc_La_law_342 : decode code 342 = .ok (.ifCond .eq 5, 3) := dq_at (q := (342, .ifCond .eq 5, 3)) dm_La_law_120 51 rfl
theorem dc_La_law_345 : decode code 345 = .ok (.iconst 0, 1) := dq_at (q := (345, .iconst 0, 1)) dm_La_law_120 52 rfl
theorem dc_La_law_346 : decode code 346 = .ok (.ireturn, 1) := dq_at (q := (346, .ireturn, 1)) dm_La_law_120 53 rfl
theorem dc_La_law_347 : decode code 347 = .ok (.goto 821, 3) := dq_at (q := (347, .goto 821, 3)) dm_La_law_120 54 rfl
theorem dc_La_law_350 : decode code 350 = .ok (.aload_n 1, 1) := dq_at (q := (350, .aload_n 1, 1)) dm_La_law_120 55 rfl
theorem dc_La_law_351 : decode code 351 = .ok (.aload_n 0, 1) := dq_at (q := (351, .aload_n 0, 1)) dm_La_law_120 56 rfl
theorem dc_La_law_352 : decode code 352 = .ok (.iload 4, 2) := dq_at (q := (352, .iload 4, 2)) dm_La_law_120 57 rfl
theorem dc_La_law_354 : decode code 354 = .ok (.iconst 1, 1) := dq_at (q := (354, .iconst 1, 1)) dm_La_law_120 58 rfl
theorem dc_La_law_355 : decode code 355 = .ok (.iadd, 1) := dq_at (q := (355, .iadd, 1)) dm_La_law_120 59 rfl
def dl_La_law_180 : List (Nat × Instr × Nat) := [(356, .iaload, 1), (357, .aload_n 0, 1), (358, .iload 4, 2), (360, .iconst 2, 1), (361, .iadd, 1), (362, .iaload, 1), (363, .invokestatic 103, 3), (366, .istore 5, 2), (368, .aload_n 2, 1), (369, .aload_n 0, 1), (370, .iload 4, 2), (372, .iconst 1, 1), (373, .iadd, 1), (374, .iaload, 1), (375, .aload_n 0, 1), (376, .iload 4, 2), (378, .iconst 2, 1), (379, .iadd, 1), (380, .iaload, 1), (381, .invokevirtual 106, 3), (384, .aload_n 2, 1), (385, .invokevirtual 80, 3), (388, .iload 5, 2), (390, .if_icmp .eq 5, 3), (393, .iconst 0, 1), (394, .ireturn, 1), (395, .goto 773, 3), (398, .aload_n 1, 1), (399, .aload_n 0, 1), (400, .iload 4, 2), (402, .iconst 1, 1), (403, .iadd, 1), (404, .iaload, 1), (405, .aload_n 0, 1), (406, .iload 4, 2), (408, .iconst 2, 1), (409, .iadd, 1), (410, .iaload, 1), (411, .aload_n 0, 1), (412, .iload 4, 2), (414, .iconst 3, 1), (415, .iadd, 1), (416, .iaload, 1), (417, .invokestatic 107, 3), (420, .istore 5, 2), (422, .aload_n 2, 1), (423, .aload_n 0, 1), (424, .iload 4, 2), (426, .iconst 1, 1), (427, .iadd, 1), (428, .iaload, 1), (429, .aload_n 0, 1), (430, .iload 4, 2), (432, .iconst 2, 1), (433, .iadd, 1), (434, .iaload, 1), (435, .aload_n 0, 1), (436, .iload 4, 2), (438, .iconst 3, 1), (439, .iadd, 1)]
theorem dm_La_law_180 : dl_La_law_180.all (fun q => decide (decode code q.1 = .ok (q.2.1, q.2.2))) = true := by decide +kernel
theorem dc_La_law_356 : decode code 356 = .ok (.iaload, 1) := dq_at (q := (356, .iaload, 1)) dm_La_law_180 0 rfl
theorem dc_La_law_357 : decode code 357 = .ok (.aload_n 0, 1) := dq_at (q := (357, .aload_n 0, 1)) dm_La_law_180 1 rfl
theorem dc_La_law_358 : decode code 358 = .ok (.iload 4, 2) := dq_at (q := (358, .iload 4, 2)) dm_La_law_180 2 rfl
theorem dc_La_law_360 : decode code 360 = .ok (.iconst 2, 1) := dq_at (q := (360, .iconst 2, 1)) dm_La_law_180 3 rfl
theorem dc_La_law_361 : decode code 361 = .ok (.iadd, 1) := dq_at (q := (361, .iadd, 1)) dm_La_law_180 4 rfl
theorem dc_La_law_362 : decode code 362 = .ok (.iaload, 1) := dq_at (q := (362, .iaload, 1)) dm_La_law_180 5 rfl
theorem dc_La_law_363 : decode code 363 = .ok (.invokestatic 103, 3) := dq_at (q := (363, .invokestatic 103, 3)) dm_La_law_180 6 rfl
theorem dc_La_law_366 : decode code 366 = .ok (.istore 5, 2) := dq_at (q := (366, .istore 5, 2)) dm_La_law_180 7 rfl
theorem dc_La_law_368 : decode code 368 = .ok (.aload_n 2, 1) := dq_at (q := (368, .aload_n 2, 1)) dm_La_law_180 8 rfl
theorem dc_La_law_369 : decode code 369 = .ok (.aload_n 0, 1) := dq_at (q := (369, .aload_n 0, 1)) dm_La_law_180 9 rfl
theorem dc_La_law_370 : decode code 370 = .ok (.iload 4, 2) := dq_at (q := (370, .iload 4, 2)) dm_La_law_180 10 rfl
theorem dc_La_law_372 : decode code 372 = .ok (.iconst 1, 1) := dq_at (q := (372, .iconst 1, 1)) dm_La_law_180 11 rfl
theorem dc_La_law_373 : decode code 373 = .ok (.iadd, 1) := dq_at (q := (373, .iadd, 1)) dm_La_law_180 12 rfl
theorem dc_La_law_374 : decode code 374 = .ok (.iaload, 1) := dq_at (q := (374, .iaload, 1)) dm_La_law_180 13 rfl
theorem dc_La_law_375 : decode code 375 = .ok (.aload_n 0, 1) := dq_at (q := (375, .aload_n 0, 1)) dm_La_law_180 14 rfl
theorem dc_La_law_376 : decode code 376 = .ok (.iload 4, 2) := dq_at (q := (376, .iload 4, 2)) dm_La_law_180 15 rfl
theorem dc_La_law_378 : decode code 378 = .ok (.iconst 2, 1) := dq_at (q := (378, .iconst 2, 1)) dm_La_law_180 16 rfl
theorem dc_La_law_379 : decode code 379 = .ok (.iadd, 1) := dq_at (q := (379, .iadd, 1)) dm_La_law_180 17 rfl
theorem dc_La_law_380 : decode code 380 = .ok (.iaload, 1) := dq_at (q := (380, .iaload, 1)) dm_La_law_180 18 rfl
theorem dc_La_law_381 : decode code 381 = .ok (.invokevirtual 106, 3) := dq_at (q := (381, .invokevirtual 106, 3)) dm_La_law_180 19 rfl
theorem dc_La_law_384 : decode code 384 = .ok (.aload_n 2, 1) := dq_at (q := (384, .aload_n 2, 1)) dm_La_law_180 20 rfl
theorem dc_La_law_385 : decode code 385 = .ok (.invokevirtual 80, 3) := dq_at (q := (385, .invokevirtual 80, 3)) dm_La_law_180 21 rfl
theorem dc_La_law_388 : decode code 388 = .ok (.iload 5, 2) := dq_at (q := (388, .iload 5, 2)) dm_La_law_180 22 rfl
theorem dc_La_law_390 : decode code 390 = .ok (.if_icmp .eq 5, 3) := dq_at (q := (390, .if_icmp .eq 5, 3)) dm_La_law_180 23 rfl
theorem dc_La_law_393 : decode code 393 = .ok (.iconst 0, 1) := dq_at (q := (393, .iconst 0, 1)) dm_La_law_180 24 rfl
theorem dc_La_law_394 : decode code 394 = .ok (.ireturn, 1) := dq_at (q := (394, .ireturn, 1)) dm_La_law_180 25 rfl
theorem dc_La_law_395 : decode code 395 = .ok (.goto 773, 3) := dq_at (q := (395, .goto 773, 3)) dm_La_law_180 26 rfl
theorem dc_La_law_398 : decode code 398 = .ok (.aload_n 1, 1) := dq_at (q := (398, .aload_n 1, 1)) dm_La_law_180 27 rfl
theorem dc_La_law_399 : decode code 399 = .ok (.aload_n 0, 1) := dq_at (q := (399, .aload_n 0, 1)) dm_La_law_180 28 rfl
theorem dc_La_law_400 : decode code 400 = .ok (.iload 4, 2) := dq_at (q := (400, .iload 4, 2)) dm_La_law_180 29 rfl
theorem dc_La_law_402 : decode code 402 = .ok (.iconst 1, 1) := dq_at (q := (402, .iconst 1, 1)) dm_La_law_180 30 rfl
theorem dc_La_law_403 : decode code 403 = .ok (.iadd, 1) := dq_at (q := (403, .iadd, 1)) dm_La_law_180 31 rfl
theorem dc_La_law_404 : decode code 404 = .ok (.iaload, 1) := dq_at (q := (404, .iaload, 1)) dm_La_law_180 32 rfl
theorem dc_La_law_405 : decode code 405 = .ok (.aload_n 0, 1) := dq_at (q := (405, .aload_n 0, 1)) dm_La_law_180 33 rfl
theorem dc_La_law_406 : decode code 406 = .ok (.iload 4, 2) := dq_at (q := (406, .iload 4, 2)) dm_La_law_180 34 rfl
theorem dc_La_law_408 : decode code 408 = .ok (.iconst 2, 1) := dq_at (q := (408, .iconst 2, 1)) dm_La_law_180 35 rfl
theorem dc_La_law_409 : decode code 409 = .ok (.iadd, 1) := dq_at (q := (409, .iadd, 1)) dm_La_law_180 36 rfl
theorem dc_La_law_410 : decode code 410 = .ok (.iaload, 1) := dq_at (q := (410, .iaload, 1)) dm_La_law_180 37 rfl
theorem dc_La_law_411 : decode code 411 = .ok (.aload_n 0, 1) := dq_at (q := (411, .aload_n 0, 1)) dm_La_law_180 38 rfl
theorem dc_La_law_412 : decode code 412 = .ok (.iload 4, 2) := dq_at (q := (412, .iload 4, 2)) dm_La_law_180 39 rfl
theorem dc_La_law_414 : decode code 414 = .ok (.iconst 3, 1) := dq_at (q := (414, .iconst 3, 1)) dm_La_law_180 40 rfl
theorem dc_La_law_415 : decode code 415 = .ok (.iadd, 1) := dq_at (q := (415, .iadd, 1)) dm_La_law_180 41 rfl
theorem dc_La_law_416 : decode code 416 = .ok (.iaload, 1) := dq_at (q := (416, .iaload, 1)) dm_La_law_180 42 rfl
theorem dc_La_law_417 : decode code 417 = .ok (.invokestatic 107, 3) := dq_at (q := (417, .invokestatic 107, 3)) dm_La_law_180 43 rfl
theorem dc_La_law_420 : decode code 420 = .ok (.istore 5, 2) := dq_at (q := (420, .istore 5, 2)) dm_La_law_180 44 rfl
theorem dc_La_law_422 : decode code 422 = .ok (.aload_n 2, 1) := dq_at (q := (422, .aload_n 2, 1)) dm_La_law_180 45 rfl
theorem dc_La_law_423 : decode code 423 = .ok (.aload_n 0, 1) := dq_at (q := (423, .aload_n 0, 1)) dm_La_law_180 46 rfl
theorem dc_La_law_424 : decode code 424 = .ok (.iload 4, 2) := dq_at (q := (424, .iload 4, 2)) dm_La_law_180 47 rfl
theorem dc_La_law_426 : decode code 426 = .ok (.iconst 1, 1) := dq_at (q := (426, .iconst 1, 1)) dm_La_law_180 48 rfl
theorem dc_La_law_427 : decode code 427 = .ok (.iadd, 1) := dq_at (q := (427, .iadd, 1)) dm_La_law_180 49 rfl
theorem dc_La_law_428 : decode code 428 = .ok (.iaload, 1) := dq_at (q := (428, .iaload, 1)) dm_La_law_180 50 rfl
theorem dc_La_law_429 : decode code 429 = .ok (.aload_n 0, 1) := dq_at (q := (429, .aload_n 0, 1)) dm_La_law_180 51 rfl
theorem dc_La_law_430 : decode code 430 = .ok (.iload 4, 2) := dq_at (q := (430, .iload 4, 2)) dm_La_law_180 52 rfl
theorem dc_La_law_432 : decode code 432 = .ok (.iconst 2, 1) := dq_at (q := (432, .iconst 2, 1)) dm_La_law_180 53 rfl
theorem dc_La_law_433 : decode code 433 = .ok (.iadd, 1) := dq_at (q := (433, .iadd, 1)) dm_La_law_180 54 rfl
theorem dc_La_law_434 : decode code 434 = .ok (.iaload, 1) := dq_at (q := (434, .iaload, 1)) dm_La_law_180 55 rfl
theorem dc_La_law_435 : decode code 435 = .ok (.aload_n 0, 1) := dq_at (q := (435, .aload_n 0, 1)) dm_La_law_180 56 rfl
theorem dc_La_law_436 : decode code 436 = .ok (.iload 4, 2) := dq_at (q := (436, .iload 4, 2)) dm_La_law_180 57 rfl
theorem dc_La_law_438 : decode code 438 = .ok (.iconst 3, 1) := dq_at (q := (438, .iconst 3, 1)) dm_La_law_180 58 rfl
theorem dc_La_law_439 : decode code 439 = .ok (.iadd, 1) := dq_at (q := (439, .iadd, 1)) dm_La_law_180 59 rfl
def dl_La_law_240 : List (Nat × Instr × Nat) := [(440, .iaload, 1), (441, .invokevirtual 110, 3), (444, .aload_n 2, 1), (445, .invokevirtual 80, 3), (448, .iload 5, 2), (450, .if_icmp .eq 5, 3), (453, .iconst 0, 1), (454, .ireturn, 1), (455, .goto 713, 3), (458, .aload_n 1, 1), (459, .aload_n 0, 1), (460, .iload 4, 2), (462, .iconst 1, 1), (463, .iadd, 1), (464, .iaload, 1), (465, .aload_n 3, 1), (466, .invokestatic 111, 3), (469, .istore 5, 2), (471, .aload_n 2, 1), (472, .aload_n 0, 1), (473, .iload 4, 2), (475, .iconst 1, 1), (476, .iadd, 1), (477, .iaload, 1), (478, .invokevirtual 113, 3), (481, .istore 6, 2), (483, .aload_n 2, 1), (484, .invokevirtual 80, 3), (487, .iload 5, 2), (489, .if_icmp .eq 5, 3), (492, .iconst 0, 1), (493, .ireturn, 1), (494, .iload 5, 2), (496, .ifCond .ne 22, 3), (499, .aload_n 3, 1), (500, .iconst 0, 1), (501, .laload, 1), (502, .iload 6, 2), (504, .ifCond .eq 7, 3), (507, .lconst 1, 1), (508, .goto 4, 3), (511, .lconst 0, 1), (512, .lcmp, 1), (513, .ifCond .eq 5, 3), (516, .iconst 0, 1), (517, .ireturn, 1), (518, .goto 650, 3), (521, .aload_n 1, 1), (522, .aload_n 0, 1), (523, .iload 4, 2), (525, .iconst 1, 1), (526, .iadd, 1), (527, .iaload, 1), (528, .aload_n 0, 1), (529, .iload 4, 2), (531, .iconst 2, 1), (532, .iadd, 1), (533, .iaload, 1), (534, .aload_n 3, 1), (535, .invokestatic 114, 3)]
theorem dm_La_law_240 : dl_La_law_240.all (fun q => decide (decode code q.1 = .ok (q.2.1, q.2.2))) = true := by decide +kernel
theorem dc_La_law_440 : decode code 440 = .ok (.iaload, 1) := dq_at (q := (440, .iaload, 1)) dm_La_law_240 0 rfl
theorem dc_La_law_441 : decode code 441 = .ok (.invokevirtual 110, 3) := dq_at (q := (441, .invokevirtual 110, 3)) dm_La_law_240 1 rfl
theorem dc_La_law_444 : decode code 444 = .ok (.aload_n 2, 1) := dq_at (q := (444, .aload_n 2, 1)) dm_La_law_240 2 rfl
theorem dc_La_law_445 : decode code 445 = .ok (.invokevirtual 80, 3) := dq_at (q := (445, .invokevirtual 80, 3)) dm_La_law_240 3 rfl
theorem dc_La_law_448 : decode code 448 = .ok (.iload 5, 2) := dq_at (q := (448, .iload 5, 2)) dm_La_law_240 4 rfl
theorem dc_La_law_450 : decode code 450 = .ok (.if_icmp .eq 5, 3) := dq_at (q := (450, .if_icmp .eq 5, 3)) dm_La_law_240 5 rfl
theorem dc_La_law_453 : decode code 453 = .ok (.iconst 0, 1) := dq_at (q := (453, .iconst 0, 1)) dm_La_law_240 6 rfl
theorem dc_La_law_454 : decode code 454 = .ok (.ireturn, 1) := dq_at (q := (454, .ireturn, 1)) dm_La_law_240 7 rfl
theorem dc_La_law_455 : decode code 455 = .ok (.goto 713, 3) := dq_at (q := (455, .goto 713, 3)) dm_La_law_240 8 rfl
theorem dc_La_law_458 : decode code 458 = .ok (.aload_n 1, 1) := dq_at (q := (458, .aload_n 1, 1)) dm_La_law_240 9 rfl
theorem dc_La_law_459 : decode code 459 = .ok (.aload_n 0, 1) := dq_at (q := (459, .aload_n 0, 1)) dm_La_law_240 10 rfl
theorem dc_La_law_460 : decode code 460 = .ok (.iload 4, 2) := dq_at (q := (460, .iload 4, 2)) dm_La_law_240 11 rfl
theorem dc_La_law_462 : decode code 462 = .ok (.iconst 1, 1) := dq_at (q := (462, .iconst 1, 1)) dm_La_law_240 12 rfl
theorem dc_La_law_463 : decode code 463 = .ok (.iadd, 1) := dq_at (q := (463, .iadd, 1)) dm_La_law_240 13 rfl
theorem dc_La_law_464 : decode code 464 = .ok (.iaload, 1) := dq_at (q := (464, .iaload, 1)) dm_La_law_240 14 rfl
theorem dc_La_law_465 : decode code 465 = .ok (.aload_n 3, 1) := dq_at (q := (465, .aload_n 3, 1)) dm_La_law_240 15 rfl
theorem dc_La_law_466 : decode code 466 = .ok (.invokestatic 111, 3) := dq_at (q := (466, .invokestatic 111, 3)) dm_La_law_240 16 rfl
theorem dc_La_law_469 : decode code 469 = .ok (.istore 5, 2) := dq_at (q := (469, .istore 5, 2)) dm_La_law_240 17 rfl
theorem dc_La_law_471 : decode code 471 = .ok (.aload_n 2, 1) := dq_at (q := (471, .aload_n 2, 1)) dm_La_law_240 18 rfl
theorem dc_La_law_472 : decode code 472 = .ok (.aload_n 0, 1) := dq_at (q := (472, .aload_n 0, 1)) dm_La_law_240 19 rfl
theorem dc_La_law_473 : decode code 473 = .ok (.iload 4, 2) := dq_at (q := (473, .iload 4, 2)) dm_La_law_240 20 rfl
theorem dc_La_law_475 : decode code 475 = .ok (.iconst 1, 1) := dq_at (q := (475, .iconst 1, 1)) dm_La_law_240 21 rfl
theorem dc_La_law_476 : decode code 476 = .ok (.iadd, 1) := dq_at (q := (476, .iadd, 1)) dm_La_law_240 22 rfl
theorem dc_La_law_477 : decode code 477 = .ok (.iaload, 1) := dq_at (q := (477, .iaload, 1)) dm_La_law_240 23 rfl
theorem dc_La_law_478 : decode code 478 = .ok (.invokevirtual 113, 3) := dq_at (q := (478, .invokevirtual 113, 3)) dm_La_law_240 24 rfl
theorem dc_La_law_481 : decode code 481 = .ok (.istore 6, 2) := dq_at (q := (481, .istore 6, 2)) dm_La_law_240 25 rfl
theorem dc_La_law_483 : decode code 483 = .ok (.aload_n 2, 1) := dq_at (q := (483, .aload_n 2, 1)) dm_La_law_240 26 rfl
theorem dc_La_law_484 : decode code 484 = .ok (.invokevirtual 80, 3) := dq_at (q := (484, .invokevirtual 80, 3)) dm_La_law_240 27 rfl
theorem dc_La_law_487 : decode code 487 = .ok (.iload 5, 2) := dq_at (q := (487, .iload 5, 2)) dm_La_law_240 28 rfl
theorem dc_La_law_489 : decode code 489 = .ok (.if_icmp .eq 5, 3) := dq_at (q := (489, .if_icmp .eq 5, 3)) dm_La_law_240 29 rfl
theorem dc_La_law_492 : decode code 492 = .ok (.iconst 0, 1) := dq_at (q := (492, .iconst 0, 1)) dm_La_law_240 30 rfl
theorem dc_La_law_493 : decode code 493 = .ok (.ireturn, 1) := dq_at (q := (493, .ireturn, 1)) dm_La_law_240 31 rfl
theorem dc_La_law_494 : decode code 494 = .ok (.iload 5, 2) := dq_at (q := (494, .iload 5, 2)) dm_La_law_240 32 rfl
theorem dc_La_law_496 : decode code 496 = .ok (.ifCond .ne 22, 3) := dq_at (q := (496, .ifCond .ne 22, 3)) dm_La_law_240 33 rfl
theorem dc_La_law_499 : decode code 499 = .ok (.aload_n 3, 1) := dq_at (q := (499, .aload_n 3, 1)) dm_La_law_240 34 rfl
theorem dc_La_law_500 : decode code 500 = .ok (.iconst 0, 1) := dq_at (q := (500, .iconst 0, 1)) dm_La_law_240 35 rfl
theorem dc_La_law_501 : decode code 501 = .ok (.laload, 1) := dq_at (q := (501, .laload, 1)) dm_La_law_240 36 rfl
theorem dc_La_law_502 : decode code 502 = .ok (.iload 6, 2) := dq_at (q := (502, .iload 6, 2)) dm_La_law_240 37 rfl
theorem dc_La_law_504 : decode code 504 = .ok (.ifCond .eq 7, 3) := dq_at (q := (504, .ifCond .eq 7, 3)) dm_La_law_240 38 rfl
theorem dc_La_law_507 : decode code 507 = .ok (.lconst 1, 1) := dq_at (q := (507, .lconst 1, 1)) dm_La_law_240 39 rfl
theorem dc_La_law_508 : decode code 508 = .ok (.goto 4, 3) := dq_at (q := (508, .goto 4, 3)) dm_La_law_240 40 rfl
theorem dc_La_law_511 : decode code 511 = .ok (.lconst 0, 1) := dq_at (q := (511, .lconst 0, 1)) dm_La_law_240 41 rfl
theorem dc_La_law_512 : decode code 512 = .ok (.lcmp, 1) := dq_at (q := (512, .lcmp, 1)) dm_La_law_240 42 rfl
theorem dc_La_law_513 : decode code 513 = .ok (.ifCond .eq 5, 3) := dq_at (q := (513, .ifCond .eq 5, 3)) dm_La_law_240 43 rfl
theorem dc_La_law_516 : decode code 516 = .ok (.iconst 0, 1) := dq_at (q := (516, .iconst 0, 1)) dm_La_law_240 44 rfl
theorem dc_La_law_517 : decode code 517 = .ok (.ireturn, 1) := dq_at (q := (517, .ireturn, 1)) dm_La_law_240 45 rfl
theorem dc_La_law_518 : decode code 518 = .ok (.goto 650, 3) := dq_at (q := (518, .goto 650, 3)) dm_La_law_240 46 rfl
theorem dc_La_law_521 : decode code 521 = .ok (.aload_n 1, 1) := dq_at (q := (521, .aload_n 1, 1)) dm_La_law_240 47 rfl
theorem dc_La_law_522 : decode code 522 = .ok (.aload_n 0, 1) := dq_at (q := (522, .aload_n 0, 1)) dm_La_law_240 48 rfl
theorem dc_La_law_523 : decode code 523 = .ok (.iload 4, 2) := dq_at (q := (523, .iload 4, 2)) dm_La_law_240 49 rfl
theorem dc_La_law_525 : decode code 525 = .ok (.iconst 1, 1) := dq_at (q := (525, .iconst 1, 1)) dm_La_law_240 50 rfl
theorem dc_La_law_526 : decode code 526 = .ok (.iadd, 1) := dq_at (q := (526, .iadd, 1)) dm_La_law_240 51 rfl
theorem dc_La_law_527 : decode code 527 = .ok (.iaload, 1) := dq_at (q := (527, .iaload, 1)) dm_La_law_240 52 rfl
theorem dc_La_law_528 : decode code 528 = .ok (.aload_n 0, 1) := dq_at (q := (528, .aload_n 0, 1)) dm_La_law_240 53 rfl
theorem dc_La_law_529 : decode code 529 = .ok (.iload 4, 2) := dq_at (q := (529, .iload 4, 2)) dm_La_law_240 54 rfl
theorem dc_La_law_531 : decode code 531 = .ok (.iconst 2, 1) := dq_at (q := (531, .iconst 2, 1)) dm_La_law_240 55 rfl
theorem dc_La_law_532 : decode code 532 = .ok (.iadd, 1) := dq_at (q := (532, .iadd, 1)) dm_La_law_240 56 rfl
theorem dc_La_law_533 : decode code 533 = .ok (.iaload, 1) := dq_at (q := (533, .iaload, 1)) dm_La_law_240 57 rfl
theorem dc_La_law_534 : decode code 534 = .ok (.aload_n 3, 1) := dq_at (q := (534, .aload_n 3, 1)) dm_La_law_240 58 rfl
theorem dc_La_law_535 : decode code 535 = .ok (.invokestatic 114, 3) := dq_at (q := (535, .invokestatic 114, 3)) dm_La_law_240 59 rfl
def dl_La_law_300 : List (Nat × Instr × Nat) := [(538, .istore 5, 2), (540, .aload_n 2, 1), (541, .aload_n 0, 1), (542, .iload 4, 2), (544, .iconst 1, 1), (545, .iadd, 1), (546, .iaload, 1), (547, .aload_n 0, 1), (548, .iload 4, 2), (550, .iconst 2, 1), (551, .iadd, 1), (552, .iaload, 1), (553, .invokevirtual 116, 3), (556, .istore 6, 2), (558, .aload_n 2, 1), (559, .invokevirtual 80, 3), (562, .iload 5, 2), (564, .if_icmp .eq 5, 3), (567, .iconst 0, 1), (568, .ireturn, 1), (569, .iload 5, 2), (571, .ifCond .ne 15, 3), (574, .aload_n 3, 1), (575, .iconst 0, 1), (576, .laload, 1), (577, .iload 6, 2), (579, .i2l, 1), (580, .lcmp, 1), (581, .ifCond .eq 5, 3), (584, .iconst 0, 1), (585, .ireturn, 1), (586, .goto 582, 3), (589, .aload_n 1, 1), (590, .aload_n 0, 1), (591, .iload 4, 2), (593, .iconst 1, 1), (594, .iadd, 1), (595, .iaload, 1), (596, .aload_n 0, 1), (597, .iload 4, 2), (599, .iconst 2, 1), (600, .iadd, 1), (601, .iaload, 1), (602, .aload_n 0, 1), (603, .iload 4, 2), (605, .iconst 3, 1), (606, .iadd, 1), (607, .iaload, 1), (608, .aload_n 3, 1), (609, .invokestatic 117, 3), (612, .istore 5, 2), (614, .aload_n 2, 1), (615, .aload_n 0, 1), (616, .iload 4, 2), (618, .iconst 1, 1), (619, .iadd, 1), (620, .iaload, 1), (621, .aload_n 0, 1), (622, .iload 4, 2), (624, .iconst 2, 1)]
theorem dm_La_law_300 : dl_La_law_300.all (fun q => decide (decode code q.1 = .ok (q.2.1, q.2.2))) = true := by decide +kernel
theorem dc_La_law_538 : decode code 538 = .ok (.istore 5, 2) := dq_at (q := (538, .istore 5, 2)) dm_La_law_300 0 rfl
theorem dc_La_law_540 : decode code 540 = .ok (.aload_n 2, 1) := dq_at (q := (540, .aload_n 2, 1)) dm_La_law_300 1 rfl
theorem dc_La_law_541 : decode code 541 = .ok (.aload_n 0, 1) := dq_at (q := (541, .aload_n 0, 1)) dm_La_law_300 2 rfl
theorem dc_La_law_542 : decode code 542 = .ok (.iload 4, 2) := dq_at (q := (542, .iload 4, 2)) dm_La_law_300 3 rfl
theorem dc_La_law_544 : decode code 544 = .ok (.iconst 1, 1) := dq_at (q := (544, .iconst 1, 1)) dm_La_law_300 4 rfl
theorem dc_La_law_545 : decode code 545 = .ok (.iadd, 1) := dq_at (q := (545, .iadd, 1)) dm_La_law_300 5 rfl
theorem dc_La_law_546 : decode code 546 = .ok (.iaload, 1) := dq_at (q := (546, .iaload, 1)) dm_La_law_300 6 rfl
theorem dc_La_law_547 : decode code 547 = .ok (.aload_n 0, 1) := dq_at (q := (547, .aload_n 0, 1)) dm_La_law_300 7 rfl
theorem dc_La_law_548 : decode code 548 = .ok (.iload 4, 2) := dq_at (q := (548, .iload 4, 2)) dm_La_law_300 8 rfl
theorem dc_La_law_550 : decode code 550 = .ok (.iconst 2, 1) := dq_at (q := (550, .iconst 2, 1)) dm_La_law_300 9 rfl
theorem dc_La_law_551 : decode code 551 = .ok (.iadd, 1) := dq_at (q := (551, .iadd, 1)) dm_La_law_300 10 rfl
theorem dc_La_law_552 : decode code 552 = .ok (.iaload, 1) := dq_at (q := (552, .iaload, 1)) dm_La_law_300 11 rfl
theorem dc_La_law_553 : decode code 553 = .ok (.invokevirtual 116, 3) := dq_at (q := (553, .invokevirtual 116, 3)) dm_La_law_300 12 rfl
theorem dc_La_law_556 : decode code 556 = .ok (.istore 6, 2) := dq_at (q := (556, .istore 6, 2)) dm_La_law_300 13 rfl
theorem dc_La_law_558 : decode code 558 = .ok (.aload_n 2, 1) := dq_at (q := (558, .aload_n 2, 1)) dm_La_law_300 14 rfl
theorem dc_La_law_559 : decode code 559 = .ok (.invokevirtual 80, 3) := dq_at (q := (559, .invokevirtual 80, 3)) dm_La_law_300 15 rfl
theorem dc_La_law_562 : decode code 562 = .ok (.iload 5, 2) := dq_at (q := (562, .iload 5, 2)) dm_La_law_300 16 rfl
theorem dc_La_law_564 : decode code 564 = .ok (.if_icmp .eq 5, 3) := dq_at (q := (564, .if_icmp .eq 5, 3)) dm_La_law_300 17 rfl
theorem dc_La_law_567 : decode code 567 = .ok (.iconst 0, 1) := dq_at (q := (567, .iconst 0, 1)) dm_La_law_300 18 rfl
theorem dc_La_law_568 : decode code 568 = .ok (.ireturn, 1) := dq_at (q := (568, .ireturn, 1)) dm_La_law_300 19 rfl
theorem dc_La_law_569 : decode code 569 = .ok (.iload 5, 2) := dq_at (q := (569, .iload 5, 2)) dm_La_law_300 20 rfl
theorem dc_La_law_571 : decode code 571 = .ok (.ifCond .ne 15, 3) := dq_at (q := (571, .ifCond .ne 15, 3)) dm_La_law_300 21 rfl
theorem dc_La_law_574 : decode code 574 = .ok (.aload_n 3, 1) := dq_at (q := (574, .aload_n 3, 1)) dm_La_law_300 22 rfl
theorem dc_La_law_575 : decode code 575 = .ok (.iconst 0, 1) := dq_at (q := (575, .iconst 0, 1)) dm_La_law_300 23 rfl
theorem dc_La_law_576 : decode code 576 = .ok (.laload, 1) := dq_at (q := (576, .laload, 1)) dm_La_law_300 24 rfl
theorem dc_La_law_577 : decode code 577 = .ok (.iload 6, 2) := dq_at (q := (577, .iload 6, 2)) dm_La_law_300 25 rfl
theorem dc_La_law_579 : decode code 579 = .ok (.i2l, 1) := dq_at (q := (579, .i2l, 1)) dm_La_law_300 26 rfl
theorem dc_La_law_580 : decode code 580 = .ok (.lcmp, 1) := dq_at (q := (580, .lcmp, 1)) dm_La_law_300 27 rfl
theorem dc_La_law_581 : decode code 581 = .ok (.ifCond .eq 5, 3) := dq_at (q := (581, .ifCond .eq 5, 3)) dm_La_law_300 28 rfl
theorem dc_La_law_584 : decode code 584 = .ok (.iconst 0, 1) := dq_at (q := (584, .iconst 0, 1)) dm_La_law_300 29 rfl
theorem dc_La_law_585 : decode code 585 = .ok (.ireturn, 1) := dq_at (q := (585, .ireturn, 1)) dm_La_law_300 30 rfl
theorem dc_La_law_586 : decode code 586 = .ok (.goto 582, 3) := dq_at (q := (586, .goto 582, 3)) dm_La_law_300 31 rfl
theorem dc_La_law_589 : decode code 589 = .ok (.aload_n 1, 1) := dq_at (q := (589, .aload_n 1, 1)) dm_La_law_300 32 rfl
theorem dc_La_law_590 : decode code 590 = .ok (.aload_n 0, 1) := dq_at (q := (590, .aload_n 0, 1)) dm_La_law_300 33 rfl
theorem dc_La_law_591 : decode code 591 = .ok (.iload 4, 2) := dq_at (q := (591, .iload 4, 2)) dm_La_law_300 34 rfl
theorem dc_La_law_593 : decode code 593 = .ok (.iconst 1, 1) := dq_at (q := (593, .iconst 1, 1)) dm_La_law_300 35 rfl
theorem dc_La_law_594 : decode code 594 = .ok (.iadd, 1) := dq_at (q := (594, .iadd, 1)) dm_La_law_300 36 rfl
theorem dc_La_law_595 : decode code 595 = .ok (.iaload, 1) := dq_at (q := (595, .iaload, 1)) dm_La_law_300 37 rfl
theorem dc_La_law_596 : decode code 596 = .ok (.aload_n 0, 1) := dq_at (q := (596, .aload_n 0, 1)) dm_La_law_300 38 rfl
theorem dc_La_law_597 : decode code 597 = .ok (.iload 4, 2) := dq_at (q := (597, .iload 4, 2)) dm_La_law_300 39 rfl
theorem dc_La_law_599 : decode code 599 = .ok (.iconst 2, 1) := dq_at (q := (599, .iconst 2, 1)) dm_La_law_300 40 rfl
theorem dc_La_law_600 : decode code 600 = .ok (.iadd, 1) := dq_at (q := (600, .iadd, 1)) dm_La_law_300 41 rfl
theorem dc_La_law_601 : decode code 601 = .ok (.iaload, 1) := dq_at (q := (601, .iaload, 1)) dm_La_law_300 42 rfl
theorem dc_La_law_602 : decode code 602 = .ok (.aload_n 0, 1) := dq_at (q := (602, .aload_n 0, 1)) dm_La_law_300 43 rfl
theorem dc_La_law_603 : decode code 603 = .ok (.iload 4, 2) := dq_at (q := (603, .iload 4, 2)) dm_La_law_300 44 rfl
theorem dc_La_law_605 : decode code 605 = .ok (.iconst 3, 1) := dq_at (q := (605, .iconst 3, 1)) dm_La_law_300 45 rfl
theorem dc_La_law_606 : decode code 606 = .ok (.iadd, 1) := dq_at (q := (606, .iadd, 1)) dm_La_law_300 46 rfl
theorem dc_La_law_607 : decode code 607 = .ok (.iaload, 1) := dq_at (q := (607, .iaload, 1)) dm_La_law_300 47 rfl
theorem dc_La_law_608 : decode code 608 = .ok (.aload_n 3, 1) := dq_at (q := (608, .aload_n 3, 1)) dm_La_law_300 48 rfl
theorem dc_La_law_609 : decode code 609 = .ok (.invokestatic 117, 3) := dq_at (q := (609, .invokestatic 117, 3)) dm_La_law_300 49 rfl
theorem dc_La_law_612 : decode code 612 = .ok (.istore 5, 2) := dq_at (q := (612, .istore 5, 2)) dm_La_law_300 50 rfl
theorem dc_La_law_614 : decode code 614 = .ok (.aload_n 2, 1) := dq_at (q := (614, .aload_n 2, 1)) dm_La_law_300 51 rfl
theorem dc_La_law_615 : decode code 615 = .ok (.aload_n 0, 1) := dq_at (q := (615, .aload_n 0, 1)) dm_La_law_300 52 rfl
theorem dc_La_law_616 : decode code 616 = .ok (.iload 4, 2) := dq_at (q := (616, .iload 4, 2)) dm_La_law_300 53 rfl
theorem dc_La_law_618 : decode code 618 = .ok (.iconst 1, 1) := dq_at (q := (618, .iconst 1, 1)) dm_La_law_300 54 rfl
theorem dc_La_law_619 : decode code 619 = .ok (.iadd, 1) := dq_at (q := (619, .iadd, 1)) dm_La_law_300 55 rfl
theorem dc_La_law_620 : decode code 620 = .ok (.iaload, 1) := dq_at (q := (620, .iaload, 1)) dm_La_law_300 56 rfl
theorem dc_La_law_621 : decode code 621 = .ok (.aload_n 0, 1) := dq_at (q := (621, .aload_n 0, 1)) dm_La_law_300 57 rfl
theorem dc_La_law_622 : decode code 622 = .ok (.iload 4, 2) := dq_at (q := (622, .iload 4, 2)) dm_La_law_300 58 rfl
theorem dc_La_law_624 : decode code 624 = .ok (.iconst 2, 1) := dq_at (q := (624, .iconst 2, 1)) dm_La_law_300 59 rfl
def dl_La_law_360 : List (Nat × Instr × Nat) := [(625, .iadd, 1), (626, .iaload, 1), (627, .aload_n 0, 1), (628, .iload 4, 2), (630, .iconst 3, 1), (631, .iadd, 1), (632, .iaload, 1), (633, .invokevirtual 120, 3), (636, .istore 6, 2), (638, .aload_n 2, 1), (639, .invokevirtual 80, 3), (642, .iload 5, 2), (644, .if_icmp .eq 5, 3), (647, .iconst 0, 1), (648, .ireturn, 1), (649, .iload 5, 2), (651, .ifCond .ne 15, 3), (654, .aload_n 3, 1), (655, .iconst 0, 1), (656, .laload, 1), (657, .iload 6, 2), (659, .i2l, 1), (660, .lcmp, 1), (661, .ifCond .eq 5, 3), (664, .iconst 0, 1), (665, .ireturn, 1), (666, .goto 502, 3), (669, .aload_n 1, 1), (670, .aload_n 0, 1), (671, .iload 4, 2), (673, .iconst 1, 1), (674, .iadd, 1), (675, .iaload, 1), (676, .aload_n 0, 1), (677, .iload 4, 2), (679, .iconst 2, 1), (680, .iadd, 1), (681, .iaload, 1), (682, .aload_n 0, 1), (683, .iload 4, 2), (685, .iconst 3, 1), (686, .iadd, 1), (687, .iaload, 1), (688, .aload_n 3, 1), (689, .invokestatic 121, 3), (692, .istore 5, 2), (694, .aload_n 2, 1), (695, .aload_n 0, 1), (696, .iload 4, 2), (698, .iconst 1, 1), (699, .iadd, 1), (700, .iaload, 1), (701, .aload_n 0, 1), (702, .iload 4, 2), (704, .iconst 2, 1), (705, .iadd, 1), (706, .iaload, 1), (707, .aload_n 0, 1), (708, .iload 4, 2), (710, .iconst 3, 1)]
theorem dm_La_law_360 : dl_La_law_360.all (fun q => decide (decode code q.1 = .ok (q.2.1, q.2.2))) = true := by decide +kernel
theorem dc_La_law_625 : decode code 625 = .ok (.iadd, 1) := dq_at (q := (625, .iadd, 1)) dm_La_law_360 0 rfl
theorem dc_La_law_626 : decode code 626 = .ok (.iaload, 1) := dq_at (q := (626, .iaload, 1)) dm_La_law_360 1 rfl
theorem dc_La_law_627 : decode code 627 = .ok (.aload_n 0, 1) := dq_at (q := (627, .aload_n 0, 1)) dm_La_law_360 2 rfl
theorem dc_La_law_628 : decode code 628 = .ok (.iload 4, 2) := dq_at (q := (628, .iload 4, 2)) dm_La_law_360 3 rfl
theorem dc_La_law_630 : decode code 630 = .ok (.iconst 3, 1) := dq_at (q := (630, .iconst 3, 1)) dm_La_law_360 4 rfl
theorem dc_La_law_631 : decode code 631 = .ok (.iadd, 1) := dq_at (q := (631, .iadd, 1)) dm_La_law_360 5 rfl
theorem dc_La_law_632 : decode code 632 = .ok (.iaload, 1) := dq_at (q := (632, .iaload, 1)) dm_La_law_360 6 rfl
theorem dc_La_law_633 : decode code 633 = .ok (.invokevirtual 120, 3) := dq_at (q := (633, .invokevirtual 120, 3)) dm_La_law_360 7 rfl
theorem dc_La_law_636 : decode code 636 = .ok (.istore 6, 2) := dq_at (q := (636, .istore 6, 2)) dm_La_law_360 8 rfl
theorem dc_La_law_638 : decode code 638 = .ok (.aload_n 2, 1) := dq_at (q := (638, .aload_n 2, 1)) dm_La_law_360 9 rfl
theorem dc_La_law_639 : decode code 639 = .ok (.invokevirtual 80, 3) := dq_at (q := (639, .invokevirtual 80, 3)) dm_La_law_360 10 rfl
theorem dc_La_law_642 : decode code 642 = .ok (.iload 5, 2) := dq_at (q := (642, .iload 5, 2)) dm_La_law_360 11 rfl
theorem dc_La_law_644 : decode code 644 = .ok (.if_icmp .eq 5, 3) := dq_at (q := (644, .if_icmp .eq 5, 3)) dm_La_law_360 12 rfl
theorem dc_La_law_647 : decode code 647 = .ok (.iconst 0, 1) := dq_at (q := (647, .iconst 0, 1)) dm_La_law_360 13 rfl
theorem dc_La_law_648 : decode code 648 = .ok (.ireturn, 1) := dq_at (q := (648, .ireturn, 1)) dm_La_law_360 14 rfl
theorem dc_La_law_649 : decode code 649 = .ok (.iload 5, 2) := dq_at (q := (649, .iload 5, 2)) dm_La_law_360 15 rfl
theorem dc_La_law_651 : decode code 651 = .ok (.ifCond .ne 15, 3) := dq_at (q := (651, .ifCond .ne 15, 3)) dm_La_law_360 16 rfl
theorem dc_La_law_654 : decode code 654 = .ok (.aload_n 3, 1) := dq_at (q := (654, .aload_n 3, 1)) dm_La_law_360 17 rfl
theorem dc_La_law_655 : decode code 655 = .ok (.iconst 0, 1) := dq_at (q := (655, .iconst 0, 1)) dm_La_law_360 18 rfl
theorem dc_La_law_656 : decode code 656 = .ok (.laload, 1) := dq_at (q := (656, .laload, 1)) dm_La_law_360 19 rfl
theorem dc_La_law_657 : decode code 657 = .ok (.iload 6, 2) := dq_at (q := (657, .iload 6, 2)) dm_La_law_360 20 rfl
theorem dc_La_law_659 : decode code 659 = .ok (.i2l, 1) := dq_at (q := (659, .i2l, 1)) dm_La_law_360 21 rfl
theorem dc_La_law_660 : decode code 660 = .ok (.lcmp, 1) := dq_at (q := (660, .lcmp, 1)) dm_La_law_360 22 rfl
theorem dc_La_law_661 : decode code 661 = .ok (.ifCond .eq 5, 3) := dq_at (q := (661, .ifCond .eq 5, 3)) dm_La_law_360 23 rfl
theorem dc_La_law_664 : decode code 664 = .ok (.iconst 0, 1) := dq_at (q := (664, .iconst 0, 1)) dm_La_law_360 24 rfl
theorem dc_La_law_665 : decode code 665 = .ok (.ireturn, 1) := dq_at (q := (665, .ireturn, 1)) dm_La_law_360 25 rfl
theorem dc_La_law_666 : decode code 666 = .ok (.goto 502, 3) := dq_at (q := (666, .goto 502, 3)) dm_La_law_360 26 rfl
theorem dc_La_law_669 : decode code 669 = .ok (.aload_n 1, 1) := dq_at (q := (669, .aload_n 1, 1)) dm_La_law_360 27 rfl
theorem dc_La_law_670 : decode code 670 = .ok (.aload_n 0, 1) := dq_at (q := (670, .aload_n 0, 1)) dm_La_law_360 28 rfl
theorem dc_La_law_671 : decode code 671 = .ok (.iload 4, 2) := dq_at (q := (671, .iload 4, 2)) dm_La_law_360 29 rfl
theorem dc_La_law_673 : decode code 673 = .ok (.iconst 1, 1) := dq_at (q := (673, .iconst 1, 1)) dm_La_law_360 30 rfl
theorem dc_La_law_674 : decode code 674 = .ok (.iadd, 1) := dq_at (q := (674, .iadd, 1)) dm_La_law_360 31 rfl
theorem dc_La_law_675 : decode code 675 = .ok (.iaload, 1) := dq_at (q := (675, .iaload, 1)) dm_La_law_360 32 rfl
theorem dc_La_law_676 : decode code 676 = .ok (.aload_n 0, 1) := dq_at (q := (676, .aload_n 0, 1)) dm_La_law_360 33 rfl
theorem dc_La_law_677 : decode code 677 = .ok (.iload 4, 2) := dq_at (q := (677, .iload 4, 2)) dm_La_law_360 34 rfl
theorem dc_La_law_679 : decode code 679 = .ok (.iconst 2, 1) := dq_at (q := (679, .iconst 2, 1)) dm_La_law_360 35 rfl
theorem dc_La_law_680 : decode code 680 = .ok (.iadd, 1) := dq_at (q := (680, .iadd, 1)) dm_La_law_360 36 rfl
theorem dc_La_law_681 : decode code 681 = .ok (.iaload, 1) := dq_at (q := (681, .iaload, 1)) dm_La_law_360 37 rfl
theorem dc_La_law_682 : decode code 682 = .ok (.aload_n 0, 1) := dq_at (q := (682, .aload_n 0, 1)) dm_La_law_360 38 rfl
theorem dc_La_law_683 : decode code 683 = .ok (.iload 4, 2) := dq_at (q := (683, .iload 4, 2)) dm_La_law_360 39 rfl
theorem dc_La_law_685 : decode code 685 = .ok (.iconst 3, 1) := dq_at (q := (685, .iconst 3, 1)) dm_La_law_360 40 rfl
theorem dc_La_law_686 : decode code 686 = .ok (.iadd, 1) := dq_at (q := (686, .iadd, 1)) dm_La_law_360 41 rfl
theorem dc_La_law_687 : decode code 687 = .ok (.iaload, 1) := dq_at (q := (687, .iaload, 1)) dm_La_law_360 42 rfl
theorem dc_La_law_688 : decode code 688 = .ok (.aload_n 3, 1) := dq_at (q := (688, .aload_n 3, 1)) dm_La_law_360 43 rfl
theorem dc_La_law_689 : decode code 689 = .ok (.invokestatic 121, 3) := dq_at (q := (689, .invokestatic 121, 3)) dm_La_law_360 44 rfl
theorem dc_La_law_692 : decode code 692 = .ok (.istore 5, 2) := dq_at (q := (692, .istore 5, 2)) dm_La_law_360 45 rfl
theorem dc_La_law_694 : decode code 694 = .ok (.aload_n 2, 1) := dq_at (q := (694, .aload_n 2, 1)) dm_La_law_360 46 rfl
theorem dc_La_law_695 : decode code 695 = .ok (.aload_n 0, 1) := dq_at (q := (695, .aload_n 0, 1)) dm_La_law_360 47 rfl
theorem dc_La_law_696 : decode code 696 = .ok (.iload 4, 2) := dq_at (q := (696, .iload 4, 2)) dm_La_law_360 48 rfl
theorem dc_La_law_698 : decode code 698 = .ok (.iconst 1, 1) := dq_at (q := (698, .iconst 1, 1)) dm_La_law_360 49 rfl
theorem dc_La_law_699 : decode code 699 = .ok (.iadd, 1) := dq_at (q := (699, .iadd, 1)) dm_La_law_360 50 rfl
theorem dc_La_law_700 : decode code 700 = .ok (.iaload, 1) := dq_at (q := (700, .iaload, 1)) dm_La_law_360 51 rfl
theorem dc_La_law_701 : decode code 701 = .ok (.aload_n 0, 1) := dq_at (q := (701, .aload_n 0, 1)) dm_La_law_360 52 rfl
theorem dc_La_law_702 : decode code 702 = .ok (.iload 4, 2) := dq_at (q := (702, .iload 4, 2)) dm_La_law_360 53 rfl
theorem dc_La_law_704 : decode code 704 = .ok (.iconst 2, 1) := dq_at (q := (704, .iconst 2, 1)) dm_La_law_360 54 rfl
theorem dc_La_law_705 : decode code 705 = .ok (.iadd, 1) := dq_at (q := (705, .iadd, 1)) dm_La_law_360 55 rfl
theorem dc_La_law_706 : decode code 706 = .ok (.iaload, 1) := dq_at (q := (706, .iaload, 1)) dm_La_law_360 56 rfl
theorem dc_La_law_707 : decode code 707 = .ok (.aload_n 0, 1) := dq_at (q := (707, .aload_n 0, 1)) dm_La_law_360 57 rfl
theorem dc_La_law_708 : decode code 708 = .ok (.iload 4, 2) := dq_at (q := (708, .iload 4, 2)) dm_La_law_360 58 rfl
theorem dc_La_law_710 : decode code 710 = .ok (.iconst 3, 1) := dq_at (q := (710, .iconst 3, 1)) dm_La_law_360 59 rfl
def dl_La_law_420 : List (Nat × Instr × Nat) := [(711, .iadd, 1), (712, .iaload, 1), (713, .invokevirtual 123, 3), (716, .istore 6, 2), (718, .aload_n 2, 1), (719, .invokevirtual 80, 3), (722, .iload 5, 2), (724, .if_icmp .eq 5, 3), (727, .iconst 0, 1), (728, .ireturn, 1), (729, .iload 5, 2), (731, .ifCond .ne 15, 3), (734, .aload_n 3, 1), (735, .iconst 0, 1), (736, .laload, 1), (737, .iload 6, 2), (739, .i2l, 1), (740, .lcmp, 1), (741, .ifCond .eq 5, 3), (744, .iconst 0, 1), (745, .ireturn, 1), (746, .goto 422, 3), (749, .aload_n 1, 1), (750, .aload_n 0, 1), (751, .iload 4, 2), (753, .iconst 1, 1), (754, .iadd, 1), (755, .iaload, 1), (756, .aload_n 0, 1), (757, .iload 4, 2), (759, .iconst 2, 1), (760, .iadd, 1), (761, .iaload, 1), (762, .aload_n 0, 1), (763, .iload 4, 2), (765, .iconst 3, 1), (766, .iadd, 1), (767, .iaload, 1), (768, .aload_n 3, 1), (769, .invokestatic 124, 3), (772, .istore 5, 2), (774, .aload_n 2, 1), (775, .aload_n 0, 1), (776, .iload 4, 2), (778, .iconst 1, 1), (779, .iadd, 1), (780, .iaload, 1), (781, .aload_n 0, 1), (782, .iload 4, 2), (784, .iconst 2, 1), (785, .iadd, 1), (786, .iaload, 1), (787, .aload_n 0, 1), (788, .iload 4, 2), (790, .iconst 3, 1), (791, .iadd, 1), (792, .iaload, 1), (793, .invokevirtual 126, 3), (796, .istore 6, 2), (798, .aload_n 2, 1)]
theorem dm_La_law_420 : dl_La_law_420.all (fun q => decide (decode code q.1 = .ok (q.2.1, q.2.2))) = true := by decide +kernel
theorem dc_La_law_711 : decode code 711 = .ok (.iadd, 1) := dq_at (q := (711, .iadd, 1)) dm_La_law_420 0 rfl
theorem dc_La_law_712 : decode code 712 = .ok (.iaload, 1) := dq_at (q := (712, .iaload, 1)) dm_La_law_420 1 rfl
theorem dc_La_law_713 : decode code 713 = .ok (.invokevirtual 123, 3) := dq_at (q := (713, .invokevirtual 123, 3)) dm_La_law_420 2 rfl
theorem dc_La_law_716 : decode code 716 = .ok (.istore 6, 2) := dq_at (q := (716, .istore 6, 2)) dm_La_law_420 3 rfl
theorem dc_La_law_718 : decode code 718 = .ok (.aload_n 2, 1) := dq_at (q := (718, .aload_n 2, 1)) dm_La_law_420 4 rfl
theorem dc_La_law_719 : decode code 719 = .ok (.invokevirtual 80, 3) := dq_at (q := (719, .invokevirtual 80, 3)) dm_La_law_420 5 rfl
theorem dc_La_law_722 : decode code 722 = .ok (.iload 5, 2) := dq_at (q := (722, .iload 5, 2)) dm_La_law_420 6 rfl
theorem dc_La_law_724 : decode code 724 = .ok (.if_icmp .eq 5, 3) := dq_at (q := (724, .if_icmp .eq 5, 3)) dm_La_law_420 7 rfl
theorem dc_La_law_727 : decode code 727 = .ok (.iconst 0, 1) := dq_at (q := (727, .iconst 0, 1)) dm_La_law_420 8 rfl
theorem dc_La_law_728 : decode code 728 = .ok (.ireturn, 1) := dq_at (q := (728, .ireturn, 1)) dm_La_law_420 9 rfl
theorem dc_La_law_729 : decode code 729 = .ok (.iload 5, 2) := dq_at (q := (729, .iload 5, 2)) dm_La_law_420 10 rfl
theorem dc_La_law_731 : decode code 731 = .ok (.ifCond .ne 15, 3) := dq_at (q := (731, .ifCond .ne 15, 3)) dm_La_law_420 11 rfl
theorem dc_La_law_734 : decode code 734 = .ok (.aload_n 3, 1) := dq_at (q := (734, .aload_n 3, 1)) dm_La_law_420 12 rfl
theorem dc_La_law_735 : decode code 735 = .ok (.iconst 0, 1) := dq_at (q := (735, .iconst 0, 1)) dm_La_law_420 13 rfl
theorem dc_La_law_736 : decode code 736 = .ok (.laload, 1) := dq_at (q := (736, .laload, 1)) dm_La_law_420 14 rfl
theorem dc_La_law_737 : decode code 737 = .ok (.iload 6, 2) := dq_at (q := (737, .iload 6, 2)) dm_La_law_420 15 rfl
theorem dc_La_law_739 : decode code 739 = .ok (.i2l, 1) := dq_at (q := (739, .i2l, 1)) dm_La_law_420 16 rfl
theorem dc_La_law_740 : decode code 740 = .ok (.lcmp, 1) := dq_at (q := (740, .lcmp, 1)) dm_La_law_420 17 rfl
theorem dc_La_law_741 : decode code 741 = .ok (.ifCond .eq 5, 3) := dq_at (q := (741, .ifCond .eq 5, 3)) dm_La_law_420 18 rfl
theorem dc_La_law_744 : decode code 744 = .ok (.iconst 0, 1) := dq_at (q := (744, .iconst 0, 1)) dm_La_law_420 19 rfl
theorem dc_La_law_745 : decode code 745 = .ok (.ireturn, 1) := dq_at (q := (745, .ireturn, 1)) dm_La_law_420 20 rfl
theorem dc_La_law_746 : decode code 746 = .ok (.goto 422, 3) := dq_at (q := (746, .goto 422, 3)) dm_La_law_420 21 rfl
theorem dc_La_law_749 : decode code 749 = .ok (.aload_n 1, 1) := dq_at (q := (749, .aload_n 1, 1)) dm_La_law_420 22 rfl
theorem dc_La_law_750 : decode code 750 = .ok (.aload_n 0, 1) := dq_at (q := (750, .aload_n 0, 1)) dm_La_law_420 23 rfl
theorem dc_La_law_751 : decode code 751 = .ok (.iload 4, 2) := dq_at (q := (751, .iload 4, 2)) dm_La_law_420 24 rfl
theorem dc_La_law_753 : decode code 753 = .ok (.iconst 1, 1) := dq_at (q := (753, .iconst 1, 1)) dm_La_law_420 25 rfl
theorem dc_La_law_754 : decode code 754 = .ok (.iadd, 1) := dq_at (q := (754, .iadd, 1)) dm_La_law_420 26 rfl
theorem dc_La_law_755 : decode code 755 = .ok (.iaload, 1) := dq_at (q := (755, .iaload, 1)) dm_La_law_420 27 rfl
theorem dc_La_law_756 : decode code 756 = .ok (.aload_n 0, 1) := dq_at (q := (756, .aload_n 0, 1)) dm_La_law_420 28 rfl
theorem dc_La_law_757 : decode code 757 = .ok (.iload 4, 2) := dq_at (q := (757, .iload 4, 2)) dm_La_law_420 29 rfl
theorem dc_La_law_759 : decode code 759 = .ok (.iconst 2, 1) := dq_at (q := (759, .iconst 2, 1)) dm_La_law_420 30 rfl
theorem dc_La_law_760 : decode code 760 = .ok (.iadd, 1) := dq_at (q := (760, .iadd, 1)) dm_La_law_420 31 rfl
theorem dc_La_law_761 : decode code 761 = .ok (.iaload, 1) := dq_at (q := (761, .iaload, 1)) dm_La_law_420 32 rfl
theorem dc_La_law_762 : decode code 762 = .ok (.aload_n 0, 1) := dq_at (q := (762, .aload_n 0, 1)) dm_La_law_420 33 rfl
theorem dc_La_law_763 : decode code 763 = .ok (.iload 4, 2) := dq_at (q := (763, .iload 4, 2)) dm_La_law_420 34 rfl
theorem dc_La_law_765 : decode code 765 = .ok (.iconst 3, 1) := dq_at (q := (765, .iconst 3, 1)) dm_La_law_420 35 rfl
theorem dc_La_law_766 : decode code 766 = .ok (.iadd, 1) := dq_at (q := (766, .iadd, 1)) dm_La_law_420 36 rfl
theorem dc_La_law_767 : decode code 767 = .ok (.iaload, 1) := dq_at (q := (767, .iaload, 1)) dm_La_law_420 37 rfl
theorem dc_La_law_768 : decode code 768 = .ok (.aload_n 3, 1) := dq_at (q := (768, .aload_n 3, 1)) dm_La_law_420 38 rfl
theorem dc_La_law_769 : decode code 769 = .ok (.invokestatic 124, 3) := dq_at (q := (769, .invokestatic 124, 3)) dm_La_law_420 39 rfl
theorem dc_La_law_772 : decode code 772 = .ok (.istore 5, 2) := dq_at (q := (772, .istore 5, 2)) dm_La_law_420 40 rfl
theorem dc_La_law_774 : decode code 774 = .ok (.aload_n 2, 1) := dq_at (q := (774, .aload_n 2, 1)) dm_La_law_420 41 rfl
theorem dc_La_law_775 : decode code 775 = .ok (.aload_n 0, 1) := dq_at (q := (775, .aload_n 0, 1)) dm_La_law_420 42 rfl
theorem dc_La_law_776 : decode code 776 = .ok (.iload 4, 2) := dq_at (q := (776, .iload 4, 2)) dm_La_law_420 43 rfl
theorem dc_La_law_778 : decode code 778 = .ok (.iconst 1, 1) := dq_at (q := (778, .iconst 1, 1)) dm_La_law_420 44 rfl
theorem dc_La_law_779 : decode code 779 = .ok (.iadd, 1) := dq_at (q := (779, .iadd, 1)) dm_La_law_420 45 rfl
theorem dc_La_law_780 : decode code 780 = .ok (.iaload, 1) := dq_at (q := (780, .iaload, 1)) dm_La_law_420 46 rfl
theorem dc_La_law_781 : decode code 781 = .ok (.aload_n 0, 1) := dq_at (q := (781, .aload_n 0, 1)) dm_La_law_420 47 rfl
theorem dc_La_law_782 : decode code 782 = .ok (.iload 4, 2) := dq_at (q := (782, .iload 4, 2)) dm_La_law_420 48 rfl
theorem dc_La_law_784 : decode code 784 = .ok (.iconst 2, 1) := dq_at (q := (784, .iconst 2, 1)) dm_La_law_420 49 rfl
theorem dc_La_law_785 : decode code 785 = .ok (.iadd, 1) := dq_at (q := (785, .iadd, 1)) dm_La_law_420 50 rfl
theorem dc_La_law_786 : decode code 786 = .ok (.iaload, 1) := dq_at (q := (786, .iaload, 1)) dm_La_law_420 51 rfl
theorem dc_La_law_787 : decode code 787 = .ok (.aload_n 0, 1) := dq_at (q := (787, .aload_n 0, 1)) dm_La_law_420 52 rfl
theorem dc_La_law_788 : decode code 788 = .ok (.iload 4, 2) := dq_at (q := (788, .iload 4, 2)) dm_La_law_420 53 rfl
theorem dc_La_law_790 : decode code 790 = .ok (.iconst 3, 1) := dq_at (q := (790, .iconst 3, 1)) dm_La_law_420 54 rfl
theorem dc_La_law_791 : decode code 791 = .ok (.iadd, 1) := dq_at (q := (791, .iadd, 1)) dm_La_law_420 55 rfl
theorem dc_La_law_792 : decode code 792 = .ok (.iaload, 1) := dq_at (q := (792, .iaload, 1)) dm_La_law_420 56 rfl
theorem dc_La_law_793 : decode code 793 = .ok (.invokevirtual 126, 3) := dq_at (q := (793, .invokevirtual 126, 3)) dm_La_law_420 57 rfl
theorem dc_La_law_796 : decode code 796 = .ok (.istore 6, 2) := dq_at (q := (796, .istore 6, 2)) dm_La_law_420 58 rfl
theorem dc_La_law_798 : decode code 798 = .ok (.aload_n 2, 1) := dq_at (q := (798, .aload_n 2, 1)) dm_La_law_420 59 rfl
def dl_La_law_480 : List (Nat × Instr × Nat) := [(799, .invokevirtual 80, 3), (802, .iload 5, 2), (804, .if_icmp .eq 5, 3), (807, .iconst 0, 1), (808, .ireturn, 1), (809, .iload 5, 2), (811, .ifCond .ne 15, 3), (814, .aload_n 3, 1), (815, .iconst 0, 1), (816, .laload, 1), (817, .iload 6, 2), (819, .i2l, 1), (820, .lcmp, 1), (821, .ifCond .eq 5, 3), (824, .iconst 0, 1), (825, .ireturn, 1), (826, .goto 342, 3), (829, .aload_n 1, 1), (830, .aload_n 0, 1), (831, .iload 4, 2), (833, .iconst 1, 1), (834, .iadd, 1), (835, .iaload, 1), (836, .aload_n 0, 1), (837, .iload 4, 2), (839, .iconst 2, 1), (840, .iadd, 1), (841, .iaload, 1), (842, .aload_n 3, 1), (843, .invokestatic 127, 3), (846, .istore 5, 2), (848, .aload_n 2, 1), (849, .aload_n 0, 1), (850, .iload 4, 2), (852, .iconst 1, 1), (853, .iadd, 1), (854, .iaload, 1), (855, .aload_n 0, 1), (856, .iload 4, 2), (858, .iconst 2, 1), (859, .iadd, 1), (860, .iaload, 1), (861, .invokevirtual 129, 3), (864, .istore 6, 2), (866, .aload_n 2, 1), (867, .invokevirtual 80, 3), (870, .iload 5, 2), (872, .if_icmp .eq 5, 3), (875, .iconst 0, 1), (876, .ireturn, 1), (877, .iload 5, 2), (879, .ifCond .ne 15, 3), (882, .aload_n 3, 1), (883, .iconst 0, 1), (884, .laload, 1), (885, .iload 6, 2), (887, .i2l, 1), (888, .lcmp, 1), (889, .ifCond .eq 5, 3), (892, .iconst 0, 1)]
theorem dm_La_law_480 : dl_La_law_480.all (fun q => decide (decode code q.1 = .ok (q.2.1, q.2.2))) = true := by decide +kernel
theorem dc_La_law_799 : decode code 799 = .ok (.invokevirtual 80, 3) := dq_at (q := (799, .invokevirtual 80, 3)) dm_La_law_480 0 rfl
theorem dc_La_law_802 : decode code 802 = .ok (.iload 5, 2) := dq_at (q := (802, .iload 5, 2)) dm_La_law_480 1 rfl
theorem dc_La_law_804 : decode code 804 = .ok (.if_icmp .eq 5, 3) := dq_at (q := (804, .if_icmp .eq 5, 3)) dm_La_law_480 2 rfl
theorem dc_La_law_807 : decode code 807 = .ok (.iconst 0, 1) := dq_at (q := (807, .iconst 0, 1)) dm_La_law_480 3 rfl
theorem dc_La_law_808 : decode code 808 = .ok (.ireturn, 1) := dq_at (q := (808, .ireturn, 1)) dm_La_law_480 4 rfl
theorem dc_La_law_809 : decode code 809 = .ok (.iload 5, 2) := dq_at (q := (809, .iload 5, 2)) dm_La_law_480 5 rfl
theorem dc_La_law_811 : decode code 811 = .ok (.ifCond .ne 15, 3) := dq_at (q := (811, .ifCond .ne 15, 3)) dm_La_law_480 6 rfl
theorem dc_La_law_814 : decode code 814 = .ok (.aload_n 3, 1) := dq_at (q := (814, .aload_n 3, 1)) dm_La_law_480 7 rfl
theorem dc_La_law_815 : decode code 815 = .ok (.iconst 0, 1) := dq_at (q := (815, .iconst 0, 1)) dm_La_law_480 8 rfl
theorem dc_La_law_816 : decode code 816 = .ok (.laload, 1) := dq_at (q := (816, .laload, 1)) dm_La_law_480 9 rfl
theorem dc_La_law_817 : decode code 817 = .ok (.iload 6, 2) := dq_at (q := (817, .iload 6, 2)) dm_La_law_480 10 rfl
theorem dc_La_law_819 : decode code 819 = .ok (.i2l, 1) := dq_at (q := (819, .i2l, 1)) dm_La_law_480 11 rfl
theorem dc_La_law_820 : decode code 820 = .ok (.lcmp, 1) := dq_at (q := (820, .lcmp, 1)) dm_La_law_480 12 rfl
theorem dc_La_law_821 : decode code 821 = .ok (.ifCond .eq 5, 3) := dq_at (q := (821, .ifCond .eq 5, 3)) dm_La_law_480 13 rfl
theorem dc_La_law_824 : decode code 824 = .ok (.iconst 0, 1) := dq_at (q := (824, .iconst 0, 1)) dm_La_law_480 14 rfl
theorem dc_La_law_825 : decode code 825 = .ok (.ireturn, 1) := dq_at (q := (825, .ireturn, 1)) dm_La_law_480 15 rfl
theorem dc_La_law_826 : decode code 826 = .ok (.goto 342, 3) := dq_at (q := (826, .goto 342, 3)) dm_La_law_480 16 rfl
theorem dc_La_law_829 : decode code 829 = .ok (.aload_n 1, 1) := dq_at (q := (829, .aload_n 1, 1)) dm_La_law_480 17 rfl
theorem dc_La_law_830 : decode code 830 = .ok (.aload_n 0, 1) := dq_at (q := (830, .aload_n 0, 1)) dm_La_law_480 18 rfl
theorem dc_La_law_831 : decode code 831 = .ok (.iload 4, 2) := dq_at (q := (831, .iload 4, 2)) dm_La_law_480 19 rfl
theorem dc_La_law_833 : decode code 833 = .ok (.iconst 1, 1) := dq_at (q := (833, .iconst 1, 1)) dm_La_law_480 20 rfl
theorem dc_La_law_834 : decode code 834 = .ok (.iadd, 1) := dq_at (q := (834, .iadd, 1)) dm_La_law_480 21 rfl
theorem dc_La_law_835 : decode code 835 = .ok (.iaload, 1) := dq_at (q := (835, .iaload, 1)) dm_La_law_480 22 rfl
theorem dc_La_law_836 : decode code 836 = .ok (.aload_n 0, 1) := dq_at (q := (836, .aload_n 0, 1)) dm_La_law_480 23 rfl
theorem dc_La_law_837 : decode code 837 = .ok (.iload 4, 2) := dq_at (q := (837, .iload 4, 2)) dm_La_law_480 24 rfl
theorem dc_La_law_839 : decode code 839 = .ok (.iconst 2, 1) := dq_at (q := (839, .iconst 2, 1)) dm_La_law_480 25 rfl
theorem dc_La_law_840 : decode code 840 = .ok (.iadd, 1) := dq_at (q := (840, .iadd, 1)) dm_La_law_480 26 rfl
theorem dc_La_law_841 : decode code 841 = .ok (.iaload, 1) := dq_at (q := (841, .iaload, 1)) dm_La_law_480 27 rfl
theorem dc_La_law_842 : decode code 842 = .ok (.aload_n 3, 1) := dq_at (q := (842, .aload_n 3, 1)) dm_La_law_480 28 rfl
theorem dc_La_law_843 : decode code 843 = .ok (.invokestatic 127, 3) := dq_at (q := (843, .invokestatic 127, 3)) dm_La_law_480 29 rfl
theorem dc_La_law_846 : decode code 846 = .ok (.istore 5, 2) := dq_at (q := (846, .istore 5, 2)) dm_La_law_480 30 rfl
theorem dc_La_law_848 : decode code 848 = .ok (.aload_n 2, 1) := dq_at (q := (848, .aload_n 2, 1)) dm_La_law_480 31 rfl
theorem dc_La_law_849 : decode code 849 = .ok (.aload_n 0, 1) := dq_at (q := (849, .aload_n 0, 1)) dm_La_law_480 32 rfl
theorem dc_La_law_850 : decode code 850 = .ok (.iload 4, 2) := dq_at (q := (850, .iload 4, 2)) dm_La_law_480 33 rfl
theorem dc_La_law_852 : decode code 852 = .ok (.iconst 1, 1) := dq_at (q := (852, .iconst 1, 1)) dm_La_law_480 34 rfl
theorem dc_La_law_853 : decode code 853 = .ok (.iadd, 1) := dq_at (q := (853, .iadd, 1)) dm_La_law_480 35 rfl
theorem dc_La_law_854 : decode code 854 = .ok (.iaload, 1) := dq_at (q := (854, .iaload, 1)) dm_La_law_480 36 rfl
theorem dc_La_law_855 : decode code 855 = .ok (.aload_n 0, 1) := dq_at (q := (855, .aload_n 0, 1)) dm_La_law_480 37 rfl
theorem dc_La_law_856 : decode code 856 = .ok (.iload 4, 2) := dq_at (q := (856, .iload 4, 2)) dm_La_law_480 38 rfl
theorem dc_La_law_858 : decode code 858 = .ok (.iconst 2, 1) := dq_at (q := (858, .iconst 2, 1)) dm_La_law_480 39 rfl
theorem dc_La_law_859 : decode code 859 = .ok (.iadd, 1) := dq_at (q := (859, .iadd, 1)) dm_La_law_480 40 rfl
theorem dc_La_law_860 : decode code 860 = .ok (.iaload, 1) := dq_at (q := (860, .iaload, 1)) dm_La_law_480 41 rfl
theorem dc_La_law_861 : decode code 861 = .ok (.invokevirtual 129, 3) := dq_at (q := (861, .invokevirtual 129, 3)) dm_La_law_480 42 rfl
theorem dc_La_law_864 : decode code 864 = .ok (.istore 6, 2) := dq_at (q := (864, .istore 6, 2)) dm_La_law_480 43 rfl
theorem dc_La_law_866 : decode code 866 = .ok (.aload_n 2, 1) := dq_at (q := (866, .aload_n 2, 1)) dm_La_law_480 44 rfl
theorem dc_La_law_867 : decode code 867 = .ok (.invokevirtual 80, 3) := dq_at (q := (867, .invokevirtual 80, 3)) dm_La_law_480 45 rfl
theorem dc_La_law_870 : decode code 870 = .ok (.iload 5, 2) := dq_at (q := (870, .iload 5, 2)) dm_La_law_480 46 rfl
theorem dc_La_law_872 : decode code 872 = .ok (.if_icmp .eq 5, 3) := dq_at (q := (872, .if_icmp .eq 5, 3)) dm_La_law_480 47 rfl
theorem dc_La_law_875 : decode code 875 = .ok (.iconst 0, 1) := dq_at (q := (875, .iconst 0, 1)) dm_La_law_480 48 rfl
theorem dc_La_law_876 : decode code 876 = .ok (.ireturn, 1) := dq_at (q := (876, .ireturn, 1)) dm_La_law_480 49 rfl
theorem dc_La_law_877 : decode code 877 = .ok (.iload 5, 2) := dq_at (q := (877, .iload 5, 2)) dm_La_law_480 50 rfl
theorem dc_La_law_879 : decode code 879 = .ok (.ifCond .ne 15, 3) := dq_at (q := (879, .ifCond .ne 15, 3)) dm_La_law_480 51 rfl
theorem dc_La_law_882 : decode code 882 = .ok (.aload_n 3, 1) := dq_at (q := (882, .aload_n 3, 1)) dm_La_law_480 52 rfl
theorem dc_La_law_883 : decode code 883 = .ok (.iconst 0, 1) := dq_at (q := (883, .iconst 0, 1)) dm_La_law_480 53 rfl
theorem dc_La_law_884 : decode code 884 = .ok (.laload, 1) := dq_at (q := (884, .laload, 1)) dm_La_law_480 54 rfl
theorem dc_La_law_885 : decode code 885 = .ok (.iload 6, 2) := dq_at (q := (885, .iload 6, 2)) dm_La_law_480 55 rfl
theorem dc_La_law_887 : decode code 887 = .ok (.i2l, 1) := dq_at (q := (887, .i2l, 1)) dm_La_law_480 56 rfl
theorem dc_La_law_888 : decode code 888 = .ok (.lcmp, 1) := dq_at (q := (888, .lcmp, 1)) dm_La_law_480 57 rfl
theorem dc_La_law_889 : decode code 889 = .ok (.ifCond .eq 5, 3) := dq_at (q := (889, .ifCond .eq 5, 3)) dm_La_law_480 58 rfl
theorem dc_La_law_892 : decode code 892 = .ok (.iconst 0, 1) := dq_at (q := (892, .iconst 0, 1)) dm_La_law_480 59 rfl
def dl_La_law_540 : List (Nat × Instr × Nat) := [(893, .ireturn, 1), (894, .goto 274, 3), (897, .aload_n 1, 1), (898, .aload_n 0, 1), (899, .iload 4, 2), (901, .iconst 1, 1), (902, .iadd, 1), (903, .iaload, 1), (904, .aload_n 3, 1), (905, .invokestatic 130, 3), (908, .istore 5, 2), (910, .aload_n 2, 1), (911, .aload_n 0, 1), (912, .iload 4, 2), (914, .iconst 1, 1), (915, .iadd, 1), (916, .iaload, 1), (917, .invokevirtual 132, 3), (920, .istore 6, 2), (922, .aload_n 2, 1), (923, .invokevirtual 80, 3), (926, .iload 5, 2), (928, .if_icmp .eq 5, 3), (931, .iconst 0, 1), (932, .ireturn, 1), (933, .iload 5, 2), (935, .ifCond .ne 15, 3), (938, .aload_n 3, 1), (939, .iconst 0, 1), (940, .laload, 1), (941, .iload 6, 2), (943, .i2l, 1), (944, .lcmp, 1), (945, .ifCond .eq 5, 3), (948, .iconst 0, 1), (949, .ireturn, 1), (950, .goto 218, 3), (953, .aload_n 1, 1), (954, .aload_n 0, 1), (955, .iload 4, 2), (957, .iconst 1, 1), (958, .iadd, 1), (959, .iaload, 1), (960, .aload_n 0, 1), (961, .iload 4, 2), (963, .iconst 2, 1), (964, .iadd, 1), (965, .iaload, 1), (966, .aload_n 3, 1), (967, .invokestatic 133, 3), (970, .istore 5, 2), (972, .aload_n 2, 1), (973, .aload_n 0, 1), (974, .iload 4, 2), (976, .iconst 1, 1), (977, .iadd, 1), (978, .iaload, 1), (979, .aload_n 0, 1), (980, .iload 4, 2), (982, .iconst 2, 1)]
theorem dm_La_law_540 : dl_La_law_540.all (fun q => decide (decode code q.1 = .ok (q.2.1, q.2.2))) = true := by decide +kernel
theorem dc_La_law_893 : decode code 893 = .ok (.ireturn, 1) := dq_at (q := (893, .ireturn, 1)) dm_La_law_540 0 rfl
theorem dc_La_law_894 : decode code 894 = .ok (.goto 274, 3) := dq_at (q := (894, .goto 274, 3)) dm_La_law_540 1 rfl
theorem dc_La_law_897 : decode code 897 = .ok (.aload_n 1, 1) := dq_at (q := (897, .aload_n 1, 1)) dm_La_law_540 2 rfl
theorem dc_La_law_898 : decode code 898 = .ok (.aload_n 0, 1) := dq_at (q := (898, .aload_n 0, 1)) dm_La_law_540 3 rfl
theorem dc_La_law_899 : decode code 899 = .ok (.iload 4, 2) := dq_at (q := (899, .iload 4, 2)) dm_La_law_540 4 rfl
theorem dc_La_law_901 : decode code 901 = .ok (.iconst 1, 1) := dq_at (q := (901, .iconst 1, 1)) dm_La_law_540 5 rfl
theorem dc_La_law_902 : decode code 902 = .ok (.iadd, 1) := dq_at (q := (902, .iadd, 1)) dm_La_law_540 6 rfl
theorem dc_La_law_903 : decode code 903 = .ok (.iaload, 1) := dq_at (q := (903, .iaload, 1)) dm_La_law_540 7 rfl
theorem dc_La_law_904 : decode code 904 = .ok (.aload_n 3, 1) := dq_at (q := (904, .aload_n 3, 1)) dm_La_law_540 8 rfl
theorem dc_La_law_905 : decode code 905 = .ok (.invokestatic 130, 3) := dq_at (q := (905, .invokestatic 130, 3)) dm_La_law_540 9 rfl
theorem dc_La_law_908 : decode code 908 = .ok (.istore 5, 2) := dq_at (q := (908, .istore 5, 2)) dm_La_law_540 10 rfl
theorem dc_La_law_910 : decode code 910 = .ok (.aload_n 2, 1) := dq_at (q := (910, .aload_n 2, 1)) dm_La_law_540 11 rfl
theorem dc_La_law_911 : decode code 911 = .ok (.aload_n 0, 1) := dq_at (q := (911, .aload_n 0, 1)) dm_La_law_540 12 rfl
theorem dc_La_law_912 : decode code 912 = .ok (.iload 4, 2) := dq_at (q := (912, .iload 4, 2)) dm_La_law_540 13 rfl
theorem dc_La_law_914 : decode code 914 = .ok (.iconst 1, 1) := dq_at (q := (914, .iconst 1, 1)) dm_La_law_540 14 rfl
theorem dc_La_law_915 : decode code 915 = .ok (.iadd, 1) := dq_at (q := (915, .iadd, 1)) dm_La_law_540 15 rfl
theorem dc_La_law_916 : decode code 916 = .ok (.iaload, 1) := dq_at (q := (916, .iaload, 1)) dm_La_law_540 16 rfl
theorem dc_La_law_917 : decode code 917 = .ok (.invokevirtual 132, 3) := dq_at (q := (917, .invokevirtual 132, 3)) dm_La_law_540 17 rfl
theorem dc_La_law_920 : decode code 920 = .ok (.istore 6, 2) := dq_at (q := (920, .istore 6, 2)) dm_La_law_540 18 rfl
theorem dc_La_law_922 : decode code 922 = .ok (.aload_n 2, 1) := dq_at (q := (922, .aload_n 2, 1)) dm_La_law_540 19 rfl
theorem dc_La_law_923 : decode code 923 = .ok (.invokevirtual 80, 3) := dq_at (q := (923, .invokevirtual 80, 3)) dm_La_law_540 20 rfl
theorem dc_La_law_926 : decode code 926 = .ok (.iload 5, 2) := dq_at (q := (926, .iload 5, 2)) dm_La_law_540 21 rfl
theorem dc_La_law_928 : decode code 928 = .ok (.if_icmp .eq 5, 3) := dq_at (q := (928, .if_icmp .eq 5, 3)) dm_La_law_540 22 rfl
theorem dc_La_law_931 : decode code 931 = .ok (.iconst 0, 1) := dq_at (q := (931, .iconst 0, 1)) dm_La_law_540 23 rfl
theorem dc_La_law_932 : decode code 932 = .ok (.ireturn, 1) := dq_at (q := (932, .ireturn, 1)) dm_La_law_540 24 rfl
theorem dc_La_law_933 : decode code 933 = .ok (.iload 5, 2) := dq_at (q := (933, .iload 5, 2)) dm_La_law_540 25 rfl
theorem dc_La_law_935 : decode code 935 = .ok (.ifCond .ne 15, 3) := dq_at (q := (935, .ifCond .ne 15, 3)) dm_La_law_540 26 rfl
theorem dc_La_law_938 : decode code 938 = .ok (.aload_n 3, 1) := dq_at (q := (938, .aload_n 3, 1)) dm_La_law_540 27 rfl
theorem dc_La_law_939 : decode code 939 = .ok (.iconst 0, 1) := dq_at (q := (939, .iconst 0, 1)) dm_La_law_540 28 rfl
theorem dc_La_law_940 : decode code 940 = .ok (.laload, 1) := dq_at (q := (940, .laload, 1)) dm_La_law_540 29 rfl
theorem dc_La_law_941 : decode code 941 = .ok (.iload 6, 2) := dq_at (q := (941, .iload 6, 2)) dm_La_law_540 30 rfl
theorem dc_La_law_943 : decode code 943 = .ok (.i2l, 1) := dq_at (q := (943, .i2l, 1)) dm_La_law_540 31 rfl
theorem dc_La_law_944 : decode code 944 = .ok (.lcmp, 1) := dq_at (q := (944, .lcmp, 1)) dm_La_law_540 32 rfl
theorem dc_La_law_945 : decode code 945 = .ok (.ifCond .eq 5, 3) := dq_at (q := (945, .ifCond .eq 5, 3)) dm_La_law_540 33 rfl
theorem dc_La_law_948 : decode code 948 = .ok (.iconst 0, 1) := dq_at (q := (948, .iconst 0, 1)) dm_La_law_540 34 rfl
theorem dc_La_law_949 : decode code 949 = .ok (.ireturn, 1) := dq_at (q := (949, .ireturn, 1)) dm_La_law_540 35 rfl
theorem dc_La_law_950 : decode code 950 = .ok (.goto 218, 3) := dq_at (q := (950, .goto 218, 3)) dm_La_law_540 36 rfl
theorem dc_La_law_953 : decode code 953 = .ok (.aload_n 1, 1) := dq_at (q := (953, .aload_n 1, 1)) dm_La_law_540 37 rfl
theorem dc_La_law_954 : decode code 954 = .ok (.aload_n 0, 1) := dq_at (q := (954, .aload_n 0, 1)) dm_La_law_540 38 rfl
theorem dc_La_law_955 : decode code 955 = .ok (.iload 4, 2) := dq_at (q := (955, .iload 4, 2)) dm_La_law_540 39 rfl
theorem dc_La_law_957 : decode code 957 = .ok (.iconst 1, 1) := dq_at (q := (957, .iconst 1, 1)) dm_La_law_540 40 rfl
theorem dc_La_law_958 : decode code 958 = .ok (.iadd, 1) := dq_at (q := (958, .iadd, 1)) dm_La_law_540 41 rfl
theorem dc_La_law_959 : decode code 959 = .ok (.iaload, 1) := dq_at (q := (959, .iaload, 1)) dm_La_law_540 42 rfl
theorem dc_La_law_960 : decode code 960 = .ok (.aload_n 0, 1) := dq_at (q := (960, .aload_n 0, 1)) dm_La_law_540 43 rfl
theorem dc_La_law_961 : decode code 961 = .ok (.iload 4, 2) := dq_at (q := (961, .iload 4, 2)) dm_La_law_540 44 rfl
theorem dc_La_law_963 : decode code 963 = .ok (.iconst 2, 1) := dq_at (q := (963, .iconst 2, 1)) dm_La_law_540 45 rfl
theorem dc_La_law_964 : decode code 964 = .ok (.iadd, 1) := dq_at (q := (964, .iadd, 1)) dm_La_law_540 46 rfl
theorem dc_La_law_965 : decode code 965 = .ok (.iaload, 1) := dq_at (q := (965, .iaload, 1)) dm_La_law_540 47 rfl
theorem dc_La_law_966 : decode code 966 = .ok (.aload_n 3, 1) := dq_at (q := (966, .aload_n 3, 1)) dm_La_law_540 48 rfl
theorem dc_La_law_967 : decode code 967 = .ok (.invokestatic 133, 3) := dq_at (q := (967, .invokestatic 133, 3)) dm_La_law_540 49 rfl
theorem dc_La_law_970 : decode code 970 = .ok (.istore 5, 2) := dq_at (q := (970, .istore 5, 2)) dm_La_law_540 50 rfl
theorem dc_La_law_972 : decode code 972 = .ok (.aload_n 2, 1) := dq_at (q := (972, .aload_n 2, 1)) dm_La_law_540 51 rfl
theorem dc_La_law_973 : decode code 973 = .ok (.aload_n 0, 1) := dq_at (q := (973, .aload_n 0, 1)) dm_La_law_540 52 rfl
theorem dc_La_law_974 : decode code 974 = .ok (.iload 4, 2) := dq_at (q := (974, .iload 4, 2)) dm_La_law_540 53 rfl
theorem dc_La_law_976 : decode code 976 = .ok (.iconst 1, 1) := dq_at (q := (976, .iconst 1, 1)) dm_La_law_540 54 rfl
theorem dc_La_law_977 : decode code 977 = .ok (.iadd, 1) := dq_at (q := (977, .iadd, 1)) dm_La_law_540 55 rfl
theorem dc_La_law_978 : decode code 978 = .ok (.iaload, 1) := dq_at (q := (978, .iaload, 1)) dm_La_law_540 56 rfl
theorem dc_La_law_979 : decode code 979 = .ok (.aload_n 0, 1) := dq_at (q := (979, .aload_n 0, 1)) dm_La_law_540 57 rfl
theorem dc_La_law_980 : decode code 980 = .ok (.iload 4, 2) := dq_at (q := (980, .iload 4, 2)) dm_La_law_540 58 rfl
theorem dc_La_law_982 : decode code 982 = .ok (.iconst 2, 1) := dq_at (q := (982, .iconst 2, 1)) dm_La_law_540 59 rfl
def dl_La_law_600 : List (Nat × Instr × Nat) := [(983, .iadd, 1), (984, .iaload, 1), (985, .invokevirtual 135, 3), (988, .lstore 6, 2), (990, .aload_n 2, 1), (991, .invokevirtual 80, 3), (994, .iload 5, 2), (996, .if_icmp .eq 5, 3), (999, .iconst 0, 1), (1000, .ireturn, 1), (1001, .iload 5, 2), (1003, .ifCond .ne 14, 3), (1006, .aload_n 3, 1), (1007, .iconst 0, 1), (1008, .laload, 1), (1009, .lload 6, 2), (1011, .lcmp, 1), (1012, .ifCond .eq 5, 3), (1015, .iconst 0, 1), (1016, .ireturn, 1), (1017, .goto 151, 3), (1020, .aload_n 1, 1), (1021, .aload_n 0, 1), (1022, .iload 4, 2), (1024, .iconst 1, 1), (1025, .iadd, 1), (1026, .iaload, 1), (1027, .aload_n 0, 1), (1028, .iload 4, 2), (1030, .iconst 2, 1), (1031, .iadd, 1), (1032, .iaload, 1), (1033, .aload_n 3, 1), (1034, .invokestatic 136, 3), (1037, .istore 5, 2), (1039, .aload_n 2, 1), (1040, .aload_n 0, 1), (1041, .iload 4, 2), (1043, .iconst 1, 1), (1044, .iadd, 1), (1045, .iaload, 1), (1046, .aload_n 0, 1), (1047, .iload 4, 2), (1049, .iconst 2, 1), (1050, .iadd, 1), (1051, .iaload, 1), (1052, .invokevirtual 138, 3), (1055, .istore 6, 2), (1057, .aload_n 2, 1), (1058, .invokevirtual 80, 3), (1061, .iload 5, 2), (1063, .if_icmp .eq 5, 3), (1066, .iconst 0, 1), (1067, .ireturn, 1), (1068, .iload 5, 2), (1070, .ifCond .ne 15, 3), (1073, .aload_n 3, 1), (1074, .iconst 0, 1), (1075, .laload, 1), (1076, .iload 6, 2)]
theorem dm_La_law_600 : dl_La_law_600.all (fun q => decide (decode code q.1 = .ok (q.2.1, q.2.2))) = true := by decide +kernel
theorem dc_La_law_983 : decode code 983 = .ok (.iadd, 1) := dq_at (q := (983, .iadd, 1)) dm_La_law_600 0 rfl
theorem dc_La_law_984 : decode code 984 = .ok (.iaload, 1) := dq_at (q := (984, .iaload, 1)) dm_La_law_600 1 rfl
theorem dc_La_law_985 : decode code 985 = .ok (.invokevirtual 135, 3) := dq_at (q := (985, .invokevirtual 135, 3)) dm_La_law_600 2 rfl
theorem dc_La_law_988 : decode code 988 = .ok (.lstore 6, 2) := dq_at (q := (988, .lstore 6, 2)) dm_La_law_600 3 rfl
theorem dc_La_law_990 : decode code 990 = .ok (.aload_n 2, 1) := dq_at (q := (990, .aload_n 2, 1)) dm_La_law_600 4 rfl
theorem dc_La_law_991 : decode code 991 = .ok (.invokevirtual 80, 3) := dq_at (q := (991, .invokevirtual 80, 3)) dm_La_law_600 5 rfl
theorem dc_La_law_994 : decode code 994 = .ok (.iload 5, 2) := dq_at (q := (994, .iload 5, 2)) dm_La_law_600 6 rfl
theorem dc_La_law_996 : decode code 996 = .ok (.if_icmp .eq 5, 3) := dq_at (q := (996, .if_icmp .eq 5, 3)) dm_La_law_600 7 rfl
theorem dc_La_law_999 : decode code 999 = .ok (.iconst 0, 1) := dq_at (q := (999, .iconst 0, 1)) dm_La_law_600 8 rfl
theorem dc_La_law_1000 : decode code 1000 = .ok (.ireturn, 1) := dq_at (q := (1000, .ireturn, 1)) dm_La_law_600 9 rfl
theorem dc_La_law_1001 : decode code 1001 = .ok (.iload 5, 2) := dq_at (q := (1001, .iload 5, 2)) dm_La_law_600 10 rfl
theorem dc_La_law_1003 : decode code 1003 = .ok (.ifCond .ne 14, 3) := dq_at (q := (1003, .ifCond .ne 14, 3)) dm_La_law_600 11 rfl
theorem dc_La_law_1006 : decode code 1006 = .ok (.aload_n 3, 1) := dq_at (q := (1006, .aload_n 3, 1)) dm_La_law_600 12 rfl
theorem dc_La_law_1007 : decode code 1007 = .ok (.iconst 0, 1) := dq_at (q := (1007, .iconst 0, 1)) dm_La_law_600 13 rfl
theorem dc_La_law_1008 : decode code 1008 = .ok (.laload, 1) := dq_at (q := (1008, .laload, 1)) dm_La_law_600 14 rfl
theorem dc_La_law_1009 : decode code 1009 = .ok (.lload 6, 2) := dq_at (q := (1009, .lload 6, 2)) dm_La_law_600 15 rfl
theorem dc_La_law_1011 : decode code 1011 = .ok (.lcmp, 1) := dq_at (q := (1011, .lcmp, 1)) dm_La_law_600 16 rfl
theorem dc_La_law_1012 : decode code 1012 = .ok (.ifCond .eq 5, 3) := dq_at (q := (1012, .ifCond .eq 5, 3)) dm_La_law_600 17 rfl
theorem dc_La_law_1015 : decode code 1015 = .ok (.iconst 0, 1) := dq_at (q := (1015, .iconst 0, 1)) dm_La_law_600 18 rfl
theorem dc_La_law_1016 : decode code 1016 = .ok (.ireturn, 1) := dq_at (q := (1016, .ireturn, 1)) dm_La_law_600 19 rfl
theorem dc_La_law_1017 : decode code 1017 = .ok (.goto 151, 3) := dq_at (q := (1017, .goto 151, 3)) dm_La_law_600 20 rfl
theorem dc_La_law_1020 : decode code 1020 = .ok (.aload_n 1, 1) := dq_at (q := (1020, .aload_n 1, 1)) dm_La_law_600 21 rfl
theorem dc_La_law_1021 : decode code 1021 = .ok (.aload_n 0, 1) := dq_at (q := (1021, .aload_n 0, 1)) dm_La_law_600 22 rfl
theorem dc_La_law_1022 : decode code 1022 = .ok (.iload 4, 2) := dq_at (q := (1022, .iload 4, 2)) dm_La_law_600 23 rfl
theorem dc_La_law_1024 : decode code 1024 = .ok (.iconst 1, 1) := dq_at (q := (1024, .iconst 1, 1)) dm_La_law_600 24 rfl
theorem dc_La_law_1025 : decode code 1025 = .ok (.iadd, 1) := dq_at (q := (1025, .iadd, 1)) dm_La_law_600 25 rfl
theorem dc_La_law_1026 : decode code 1026 = .ok (.iaload, 1) := dq_at (q := (1026, .iaload, 1)) dm_La_law_600 26 rfl
theorem dc_La_law_1027 : decode code 1027 = .ok (.aload_n 0, 1) := dq_at (q := (1027, .aload_n 0, 1)) dm_La_law_600 27 rfl
theorem dc_La_law_1028 : decode code 1028 = .ok (.iload 4, 2) := dq_at (q := (1028, .iload 4, 2)) dm_La_law_600 28 rfl
theorem dc_La_law_1030 : decode code 1030 = .ok (.iconst 2, 1) := dq_at (q := (1030, .iconst 2, 1)) dm_La_law_600 29 rfl
theorem dc_La_law_1031 : decode code 1031 = .ok (.iadd, 1) := dq_at (q := (1031, .iadd, 1)) dm_La_law_600 30 rfl
theorem dc_La_law_1032 : decode code 1032 = .ok (.iaload, 1) := dq_at (q := (1032, .iaload, 1)) dm_La_law_600 31 rfl
theorem dc_La_law_1033 : decode code 1033 = .ok (.aload_n 3, 1) := dq_at (q := (1033, .aload_n 3, 1)) dm_La_law_600 32 rfl
theorem dc_La_law_1034 : decode code 1034 = .ok (.invokestatic 136, 3) := dq_at (q := (1034, .invokestatic 136, 3)) dm_La_law_600 33 rfl
theorem dc_La_law_1037 : decode code 1037 = .ok (.istore 5, 2) := dq_at (q := (1037, .istore 5, 2)) dm_La_law_600 34 rfl
theorem dc_La_law_1039 : decode code 1039 = .ok (.aload_n 2, 1) := dq_at (q := (1039, .aload_n 2, 1)) dm_La_law_600 35 rfl
theorem dc_La_law_1040 : decode code 1040 = .ok (.aload_n 0, 1) := dq_at (q := (1040, .aload_n 0, 1)) dm_La_law_600 36 rfl
theorem dc_La_law_1041 : decode code 1041 = .ok (.iload 4, 2) := dq_at (q := (1041, .iload 4, 2)) dm_La_law_600 37 rfl
theorem dc_La_law_1043 : decode code 1043 = .ok (.iconst 1, 1) := dq_at (q := (1043, .iconst 1, 1)) dm_La_law_600 38 rfl
theorem dc_La_law_1044 : decode code 1044 = .ok (.iadd, 1) := dq_at (q := (1044, .iadd, 1)) dm_La_law_600 39 rfl
theorem dc_La_law_1045 : decode code 1045 = .ok (.iaload, 1) := dq_at (q := (1045, .iaload, 1)) dm_La_law_600 40 rfl
theorem dc_La_law_1046 : decode code 1046 = .ok (.aload_n 0, 1) := dq_at (q := (1046, .aload_n 0, 1)) dm_La_law_600 41 rfl
theorem dc_La_law_1047 : decode code 1047 = .ok (.iload 4, 2) := dq_at (q := (1047, .iload 4, 2)) dm_La_law_600 42 rfl
theorem dc_La_law_1049 : decode code 1049 = .ok (.iconst 2, 1) := dq_at (q := (1049, .iconst 2, 1)) dm_La_law_600 43 rfl
theorem dc_La_law_1050 : decode code 1050 = .ok (.iadd, 1) := dq_at (q := (1050, .iadd, 1)) dm_La_law_600 44 rfl
theorem dc_La_law_1051 : decode code 1051 = .ok (.iaload, 1) := dq_at (q := (1051, .iaload, 1)) dm_La_law_600 45 rfl
theorem dc_La_law_1052 : decode code 1052 = .ok (.invokevirtual 138, 3) := dq_at (q := (1052, .invokevirtual 138, 3)) dm_La_law_600 46 rfl
theorem dc_La_law_1055 : decode code 1055 = .ok (.istore 6, 2) := dq_at (q := (1055, .istore 6, 2)) dm_La_law_600 47 rfl
theorem dc_La_law_1057 : decode code 1057 = .ok (.aload_n 2, 1) := dq_at (q := (1057, .aload_n 2, 1)) dm_La_law_600 48 rfl
theorem dc_La_law_1058 : decode code 1058 = .ok (.invokevirtual 80, 3) := dq_at (q := (1058, .invokevirtual 80, 3)) dm_La_law_600 49 rfl
theorem dc_La_law_1061 : decode code 1061 = .ok (.iload 5, 2) := dq_at (q := (1061, .iload 5, 2)) dm_La_law_600 50 rfl
theorem dc_La_law_1063 : decode code 1063 = .ok (.if_icmp .eq 5, 3) := dq_at (q := (1063, .if_icmp .eq 5, 3)) dm_La_law_600 51 rfl
theorem dc_La_law_1066 : decode code 1066 = .ok (.iconst 0, 1) := dq_at (q := (1066, .iconst 0, 1)) dm_La_law_600 52 rfl
theorem dc_La_law_1067 : decode code 1067 = .ok (.ireturn, 1) := dq_at (q := (1067, .ireturn, 1)) dm_La_law_600 53 rfl
theorem dc_La_law_1068 : decode code 1068 = .ok (.iload 5, 2) := dq_at (q := (1068, .iload 5, 2)) dm_La_law_600 54 rfl
theorem dc_La_law_1070 : decode code 1070 = .ok (.ifCond .ne 15, 3) := dq_at (q := (1070, .ifCond .ne 15, 3)) dm_La_law_600 55 rfl
theorem dc_La_law_1073 : decode code 1073 = .ok (.aload_n 3, 1) := dq_at (q := (1073, .aload_n 3, 1)) dm_La_law_600 56 rfl
theorem dc_La_law_1074 : decode code 1074 = .ok (.iconst 0, 1) := dq_at (q := (1074, .iconst 0, 1)) dm_La_law_600 57 rfl
theorem dc_La_law_1075 : decode code 1075 = .ok (.laload, 1) := dq_at (q := (1075, .laload, 1)) dm_La_law_600 58 rfl
theorem dc_La_law_1076 : decode code 1076 = .ok (.iload 6, 2) := dq_at (q := (1076, .iload 6, 2)) dm_La_law_600 59 rfl
def dl_La_law_660 : List (Nat × Instr × Nat) := [(1078, .i2l, 1), (1079, .lcmp, 1), (1080, .ifCond .eq 5, 3), (1083, .iconst 0, 1), (1084, .ireturn, 1), (1085, .goto 83, 3), (1088, .aload_n 1, 1), (1089, .aload_n 0, 1), (1090, .iload 4, 2), (1092, .iconst 1, 1), (1093, .iadd, 1), (1094, .iaload, 1), (1095, .aload_n 0, 1), (1096, .iload 4, 2), (1098, .iconst 2, 1), (1099, .iadd, 1), (1100, .iaload, 1), (1101, .aload_n 0, 1), (1102, .iload 4, 2), (1104, .iconst 3, 1), (1105, .iadd, 1), (1106, .iaload, 1), (1107, .aload_n 3, 1), (1108, .invokestatic 139, 3), (1111, .istore 5, 2), (1113, .aload_n 2, 1), (1114, .aload_n 0, 1), (1115, .iload 4, 2), (1117, .iconst 1, 1), (1118, .iadd, 1), (1119, .iaload, 1), (1120, .aload_n 0, 1), (1121, .iload 4, 2), (1123, .iconst 2, 1), (1124, .iadd, 1), (1125, .iaload, 1), (1126, .aload_n 0, 1), (1127, .iload 4, 2), (1129, .iconst 3, 1), (1130, .iadd, 1), (1131, .iaload, 1), (1132, .invokevirtual 141, 3), (1135, .istore 6, 2), (1137, .aload_n 2, 1), (1138, .invokevirtual 80, 3), (1141, .iload 5, 2), (1143, .if_icmp .eq 5, 3), (1146, .iconst 0, 1), (1147, .ireturn, 1), (1148, .iload 5, 2), (1150, .ifCond .ne 15, 3), (1153, .aload_n 3, 1), (1154, .iconst 0, 1), (1155, .laload, 1), (1156, .iload 6, 2), (1158, .i2l, 1), (1159, .lcmp, 1), (1160, .ifCond .eq 5, 3), (1163, .iconst 0, 1), (1164, .ireturn, 1)]
theorem dm_La_law_660 : dl_La_law_660.all (fun q => decide (decode code q.1 = .ok (q.2.1, q.2.2))) = true := by decide +kernel
theorem dc_La_law_1078 : decode code 1078 = .ok (.i2l, 1) := dq_at (q := (1078, .i2l, 1)) dm_La_law_660 0 rfl
theorem dc_La_law_1079 : decode code 1079 = .ok (.lcmp, 1) := dq_at (q := (1079, .lcmp, 1)) dm_La_law_660 1 rfl
theorem dc_La_law_1080 : decode code 1080 = .ok (.ifCond .eq 5, 3) := dq_at (q := (1080, .ifCond .eq 5, 3)) dm_La_law_660 2 rfl
theorem dc_La_law_1083 : decode code 1083 = .ok (.iconst 0, 1) := dq_at (q := (1083, .iconst 0, 1)) dm_La_law_660 3 rfl
theorem dc_La_law_1084 : decode code 1084 = .ok (.ireturn, 1) := dq_at (q := (1084, .ireturn, 1)) dm_La_law_660 4 rfl
theorem dc_La_law_1085 : decode code 1085 = .ok (.goto 83, 3) := dq_at (q := (1085, .goto 83, 3)) dm_La_law_660 5 rfl
theorem dc_La_law_1088 : decode code 1088 = .ok (.aload_n 1, 1) := dq_at (q := (1088, .aload_n 1, 1)) dm_La_law_660 6 rfl
theorem dc_La_law_1089 : decode code 1089 = .ok (.aload_n 0, 1) := dq_at (q := (1089, .aload_n 0, 1)) dm_La_law_660 7 rfl
theorem dc_La_law_1090 : decode code 1090 = .ok (.iload 4, 2) := dq_at (q := (1090, .iload 4, 2)) dm_La_law_660 8 rfl
theorem dc_La_law_1092 : decode code 1092 = .ok (.iconst 1, 1) := dq_at (q := (1092, .iconst 1, 1)) dm_La_law_660 9 rfl
theorem dc_La_law_1093 : decode code 1093 = .ok (.iadd, 1) := dq_at (q := (1093, .iadd, 1)) dm_La_law_660 10 rfl
theorem dc_La_law_1094 : decode code 1094 = .ok (.iaload, 1) := dq_at (q := (1094, .iaload, 1)) dm_La_law_660 11 rfl
theorem dc_La_law_1095 : decode code 1095 = .ok (.aload_n 0, 1) := dq_at (q := (1095, .aload_n 0, 1)) dm_La_law_660 12 rfl
theorem dc_La_law_1096 : decode code 1096 = .ok (.iload 4, 2) := dq_at (q := (1096, .iload 4, 2)) dm_La_law_660 13 rfl
theorem dc_La_law_1098 : decode code 1098 = .ok (.iconst 2, 1) := dq_at (q := (1098, .iconst 2, 1)) dm_La_law_660 14 rfl
theorem dc_La_law_1099 : decode code 1099 = .ok (.iadd, 1) := dq_at (q := (1099, .iadd, 1)) dm_La_law_660 15 rfl
theorem dc_La_law_1100 : decode code 1100 = .ok (.iaload, 1) := dq_at (q := (1100, .iaload, 1)) dm_La_law_660 16 rfl
theorem dc_La_law_1101 : decode code 1101 = .ok (.aload_n 0, 1) := dq_at (q := (1101, .aload_n 0, 1)) dm_La_law_660 17 rfl
theorem dc_La_law_1102 : decode code 1102 = .ok (.iload 4, 2) := dq_at (q := (1102, .iload 4, 2)) dm_La_law_660 18 rfl
theorem dc_La_law_1104 : decode code 1104 = .ok (.iconst 3, 1) := dq_at (q := (1104, .iconst 3, 1)) dm_La_law_660 19 rfl
theorem dc_La_law_1105 : decode code 1105 = .ok (.iadd, 1) := dq_at (q := (1105, .iadd, 1)) dm_La_law_660 20 rfl
theorem dc_La_law_1106 : decode code 1106 = .ok (.iaload, 1) := dq_at (q := (1106, .iaload, 1)) dm_La_law_660 21 rfl
theorem dc_La_law_1107 : decode code 1107 = .ok (.aload_n 3, 1) := dq_at (q := (1107, .aload_n 3, 1)) dm_La_law_660 22 rfl
theorem dc_La_law_1108 : decode code 1108 = .ok (.invokestatic 139, 3) := dq_at (q := (1108, .invokestatic 139, 3)) dm_La_law_660 23 rfl
theorem dc_La_law_1111 : decode code 1111 = .ok (.istore 5, 2) := dq_at (q := (1111, .istore 5, 2)) dm_La_law_660 24 rfl
theorem dc_La_law_1113 : decode code 1113 = .ok (.aload_n 2, 1) := dq_at (q := (1113, .aload_n 2, 1)) dm_La_law_660 25 rfl
theorem dc_La_law_1114 : decode code 1114 = .ok (.aload_n 0, 1) := dq_at (q := (1114, .aload_n 0, 1)) dm_La_law_660 26 rfl
theorem dc_La_law_1115 : decode code 1115 = .ok (.iload 4, 2) := dq_at (q := (1115, .iload 4, 2)) dm_La_law_660 27 rfl
theorem dc_La_law_1117 : decode code 1117 = .ok (.iconst 1, 1) := dq_at (q := (1117, .iconst 1, 1)) dm_La_law_660 28 rfl
theorem dc_La_law_1118 : decode code 1118 = .ok (.iadd, 1) := dq_at (q := (1118, .iadd, 1)) dm_La_law_660 29 rfl
theorem dc_La_law_1119 : decode code 1119 = .ok (.iaload, 1) := dq_at (q := (1119, .iaload, 1)) dm_La_law_660 30 rfl
theorem dc_La_law_1120 : decode code 1120 = .ok (.aload_n 0, 1) := dq_at (q := (1120, .aload_n 0, 1)) dm_La_law_660 31 rfl
theorem dc_La_law_1121 : decode code 1121 = .ok (.iload 4, 2) := dq_at (q := (1121, .iload 4, 2)) dm_La_law_660 32 rfl
theorem dc_La_law_1123 : decode code 1123 = .ok (.iconst 2, 1) := dq_at (q := (1123, .iconst 2, 1)) dm_La_law_660 33 rfl
theorem dc_La_law_1124 : decode code 1124 = .ok (.iadd, 1) := dq_at (q := (1124, .iadd, 1)) dm_La_law_660 34 rfl
theorem dc_La_law_1125 : decode code 1125 = .ok (.iaload, 1) := dq_at (q := (1125, .iaload, 1)) dm_La_law_660 35 rfl
theorem dc_La_law_1126 : decode code 1126 = .ok (.aload_n 0, 1) := dq_at (q := (1126, .aload_n 0, 1)) dm_La_law_660 36 rfl
theorem dc_La_law_1127 : decode code 1127 = .ok (.iload 4, 2) := dq_at (q := (1127, .iload 4, 2)) dm_La_law_660 37 rfl
theorem dc_La_law_1129 : decode code 1129 = .ok (.iconst 3, 1) := dq_at (q := (1129, .iconst 3, 1)) dm_La_law_660 38 rfl
theorem dc_La_law_1130 : decode code 1130 = .ok (.iadd, 1) := dq_at (q := (1130, .iadd, 1)) dm_La_law_660 39 rfl
theorem dc_La_law_1131 : decode code 1131 = .ok (.iaload, 1) := dq_at (q := (1131, .iaload, 1)) dm_La_law_660 40 rfl
theorem dc_La_law_1132 : decode code 1132 = .ok (.invokevirtual 141, 3) := dq_at (q := (1132, .invokevirtual 141, 3)) dm_La_law_660 41 rfl
theorem dc_La_law_1135 : decode code 1135 = .ok (.istore 6, 2) := dq_at (q := (1135, .istore 6, 2)) dm_La_law_660 42 rfl
theorem dc_La_law_1137 : decode code 1137 = .ok (.aload_n 2, 1) := dq_at (q := (1137, .aload_n 2, 1)) dm_La_law_660 43 rfl
theorem dc_La_law_1138 : decode code 1138 = .ok (.invokevirtual 80, 3) := dq_at (q := (1138, .invokevirtual 80, 3)) dm_La_law_660 44 rfl
theorem dc_La_law_1141 : decode code 1141 = .ok (.iload 5, 2) := dq_at (q := (1141, .iload 5, 2)) dm_La_law_660 45 rfl
theorem dc_La_law_1143 : decode code 1143 = .ok (.if_icmp .eq 5, 3) := dq_at (q := (1143, .if_icmp .eq 5, 3)) dm_La_law_660 46 rfl
theorem dc_La_law_1146 : decode code 1146 = .ok (.iconst 0, 1) := dq_at (q := (1146, .iconst 0, 1)) dm_La_law_660 47 rfl
theorem dc_La_law_1147 : decode code 1147 = .ok (.ireturn, 1) := dq_at (q := (1147, .ireturn, 1)) dm_La_law_660 48 rfl
theorem dc_La_law_1148 : decode code 1148 = .ok (.iload 5, 2) := dq_at (q := (1148, .iload 5, 2)) dm_La_law_660 49 rfl
theorem dc_La_law_1150 : decode code 1150 = .ok (.ifCond .ne 15, 3) := dq_at (q := (1150, .ifCond .ne 15, 3)) dm_La_law_660 50 rfl
theorem dc_La_law_1153 : decode code 1153 = .ok (.aload_n 3, 1) := dq_at (q := (1153, .aload_n 3, 1)) dm_La_law_660 51 rfl
theorem dc_La_law_1154 : decode code 1154 = .ok (.iconst 0, 1) := dq_at (q := (1154, .iconst 0, 1)) dm_La_law_660 52 rfl
theorem dc_La_law_1155 : decode code 1155 = .ok (.laload, 1) := dq_at (q := (1155, .laload, 1)) dm_La_law_660 53 rfl
theorem dc_La_law_1156 : decode code 1156 = .ok (.iload 6, 2) := dq_at (q := (1156, .iload 6, 2)) dm_La_law_660 54 rfl
theorem dc_La_law_1158 : decode code 1158 = .ok (.i2l, 1) := dq_at (q := (1158, .i2l, 1)) dm_La_law_660 55 rfl
theorem dc_La_law_1159 : decode code 1159 = .ok (.lcmp, 1) := dq_at (q := (1159, .lcmp, 1)) dm_La_law_660 56 rfl
theorem dc_La_law_1160 : decode code 1160 = .ok (.ifCond .eq 5, 3) := dq_at (q := (1160, .ifCond .eq 5, 3)) dm_La_law_660 57 rfl
theorem dc_La_law_1163 : decode code 1163 = .ok (.iconst 0, 1) := dq_at (q := (1163, .iconst 0, 1)) dm_La_law_660 58 rfl
theorem dc_La_law_1164 : decode code 1164 = .ok (.ireturn, 1) := dq_at (q := (1164, .ireturn, 1)) dm_La_law_660 59 rfl
def dl_La_law_720 : List (Nat × Instr × Nat) := [(1165, .goto 3, 3), (1168, .iinc 4 4, 3), (1171, .goto (-1148), 3), (1174, .iconst 1, 1), (1175, .ireturn, 1)]
theorem dm_La_law_720 : dl_La_law_720.all (fun q => decide (decode code q.1 = .ok (q.2.1, q.2.2))) = true := by decide +kernel
theorem dc_La_law_1165 : decode code 1165 = .ok (.goto 3, 3) := dq_at (q := (1165, .goto 3, 3)) dm_La_law_720 0 rfl
theorem dc_La_law_1168 : decode code 1168 = .ok (.iinc 4 4, 3) := dq_at (q := (1168, .iinc 4 4, 3)) dm_La_law_720 1 rfl
theorem dc_La_law_1171 : decode code 1171 = .ok (.goto (-1148), 3) := dq_at (q := (1171, .goto (-1148), 3)) dm_La_law_720 2 rfl
theorem dc_La_law_1174 : decode code 1174 = .ok (.iconst 1, 1) := dq_at (q := (1174, .iconst 1, 1)) dm_La_law_720 3 rfl
theorem dc_La_law_1175 : decode code 1175 = .ok (.ireturn, 1) := dq_at (q := (1175, .ireturn, 1)) dm_La_law_720 4 rfl
