def dl_De_init_0 : List (Nat × Instr × Nat) := [(0, .aload_n 0, 1), (1, .invokespecial 3, 3), (4, .aload_n 0, 1), (5, .iconst 4, 1), (6, .putfield 9, 3), (9, .aload_n 0, 1), (10, .iconst 5, 1), (11, .anewarray 13, 3), (14, .putfield 15, 3), (17, .iconst 0, 1), (18, .istore_n 1, 1), (19, .iload_n 1, 1), (20, .iconst 5, 1), (21, .if_icmp .ge 22, 3), (24, .aload_n 0, 1), (25, .getfield 15, 3), (28, .iload_n 1, 1), (29, .new 13, 3), (32, .dup, 1), (33, .invokespecial 19, 3), (36, .aastore, 1), (37, .iinc 1 1, 3), (40, .goto (-21), 3), (43, .aload_n 0, 1), (44, .new 20, 3), (47, .dup, 1), (48, .invokespecial 22, 3), (51, .putfield 23, 3), (54, .aload_n 0, 1), (55, .new 27, 3), (58, .dup, 1), (59, .invokespecial 29, 3), (62, .putfield 30, 3), (65, .aload_n 0, 1), (66, .iconst 5, 1), (67, .anewarray 34, 3), (70, .putfield 36, 3), (73, .aload_n 0, 1), (74, .bipush 7, 2), (76, .newarray .int, 2), (78, .putfield 40, 3), (81, .aload_n 0, 1), (82, .iconst (-1), 1), (83, .putfield 44, 3), (86, .aload_n 0, 1), (87, .bipush 7, 2), (89, .newarray .int, 2), (91, .putfield 47, 3), (94, .aload_n 0, 1), (95, .bipush 6, 2), (97, .newarray .int, 2), (99, .putfield 50, 3), (102, .aload_n 0, 1), (103, .bipush 6, 2), (105, .newarray .int, 2), (107, .putfield 53, 3), (110, .return_, 1)]
theorem dm_De_init_0 : dl_De_init_0.all (fun q => decide (decode cd_De_init q.1 = .ok (q.2.1, q.2.2))) = true := by decide +kernel
theorem dc_De_init_0 : decode cd_De_init 0 = .ok (.aload_n 0, 1) := dq_at (q := (0, .aload_n 0, 1)) dm_De_init_0 0 rfl
theorem dc_De_init_1 : decode cd_De_init 1 = .ok (.invokespecial 3, 3) := dq_at (q := (1, .invokespecial 3, 3)) dm_De_init_0 1 rfl
theorem dc_De_init_4 : decode cd_De_init 4 = .ok (.aload_n 0, 1) := dq_at (q := (4, .aload_n 0, 1)) dm_De_init_0 2 rfl
theorem dc_De_init_5 : decode cd_De_init 5 = .ok (.iconst 4, 1) := dq_at (q := (5, .iconst 4, 1)) dm_De_init_0 3 rfl
theorem dc_De_init_6 : decode cd_De_init 6 = .ok (.putfield 9, 3) := dq_at (q := (6, .putfield 9, 3)) dm_De_init_0 4 rfl
theorem dc_De_init_9 : decode cd_De_init 9 = .ok (.aload_n 0, 1) := dq_at (q := (9, .aload_n 0, 1)) dm_De_init_0 5 rfl
theorem dc_De_init_10 : decode cd_De_init 10 = .ok (.iconst 5, 1) := dq_at (q := (10, .iconst 5, 1)) dm_De_init_0 6 rfl
theorem dc_De_init_11 : decode cd_De_init 11 = .ok (.anewarray 13, 3) := dq_at (q := (11, .anewarray 13, 3)) dm_De_init_0 7 rfl
theorem dc_De_init_14 : decode cd_De_init 14 = .ok (.putfield 15, 3) := dq_at (q := (14, .putfield 15, 3)) dm_De_init_0 8 rfl
theorem dc_De_init_17 : decode cd_De_init 17 = .ok (.iconst 0, 1) := dq_at (q := (17, .iconst 0, 1)) dm_De_init_0 9 rfl
theorem dc_De_init_18 : decode cd_De_init 18 = .ok (.istore_n 1, 1) := dq_at (q := (18, .istore_n 1, 1)) dm_De_init_0 10 rfl
theorem dc_De_init_19 : decode cd_De_init 19 = .ok (.iload_n 1, 1) := dq_at (q := (19, .iload_n 1, 1)) dm_De_init_0 11 rfl
theorem dc_De_init_20 : decode cd_De_init 20 = .ok (.iconst 5, 1) := dq_at (q := (20, .iconst 5, 1)) dm_De_init_0 12 rfl
theorem dc_De_init_21 : decode cd_De_init 21 = .ok (.if_icmp .ge 22, 3) := dq_at (q := (21, .if_icmp .ge 22, 3)) dm_De_init_0 13 rfl
theorem dc_De_init_24 : decode cd_De_init 24 = .ok (.aload_n 0, 1) := dq_at (q := (24, .aload_n 0, 1)) dm_De_init_0 14 rfl
theorem dc_De_init_25 : decode cd_De_init 25 = .ok (.getfield 15, 3) := dq_at (q := (25, .getfield 15, 3)) dm_De_init_0 15 rfl
theorem dc_De_init_28 : decode cd_De_init 28 = .ok (.iload_n 1, 1) := dq_at (q := (28, .iload_n 1, 1)) dm_De_init_0 16 rfl
theorem dc_De_init_29 : decode cd_De_init 29 = .ok (.new 13, 3) := dq_at (q := (29, .new 13, 3)) dm_De_init_0 17 rfl
theorem dc_De_init_32 : decode cd_De_init 32 = .ok (.dup, 1) := dq_at (q := (32, .dup, 1)) dm_De_init_0 18 rfl
theorem dc_De_init_33 : decode cd_De_init 33 = .ok (.invokespecial 19, 3) := dq_at (q := (33, .invokespecial 19, 3)) dm_De_init_0 19 rfl
theorem dc_De_init_36 : decode cd_De_init 36 = .ok (.aastore, 1) := dq_at (q := (36, .aastore, 1)) dm_De_init_0 20 rfl
theorem dc_De_init_37 : decode cd_De_init 37 = .ok (.iinc 1 1, 3) := dq_at (q := (37, .iinc 1 1, 3)) dm_De_init_0 21 rfl
theorem dc_De_init_40 : decode cd_De_init 40 = .ok (.goto (-21), 3) := dq_at (q := (40, .goto (-21), 3)) dm_De_init_0 22 rfl
theorem dc_De_init_43 : decode cd_De_init 43 = .ok (.aload_n 0, 1) := dq_at (q := (43, .aload_n 0, 1)) dm_De_init_0 23 rfl
theorem dc_De_init_44 : decode cd_De_init 44 = .ok (.new 20, 3) := dq_at (q := (44, .new 20, 3)) dm_De_init_0 24 rfl
theorem dc_De_init_47 : decode cd_De_init 47 = .ok (.dup, 1) := dq_at (q := (47, .dup, 1)) dm_De_init_0 25 rfl
theorem dc_De_init_48 : decode cd_De_init 48 = .ok (.invokespecial 22, 3) := dq_at (q := (48, .invokespecial 22, 3)) dm_De_init_0 26 rfl
theorem dc_De_init_51 : decode cd_De_init 51 = .ok (.putfield 23, 3) := dq_at (q := (51, .putfield 23, 3)) dm_De_init_0 27 rfl
theorem dc_De_init_54 : decode cd_De_init 54 = .ok (.aload_n 0, 1) := dq_at (q := (54, .aload_n 0, 1)) dm_De_init_0 28 rfl
theorem dc_De_init_55 : decode cd_De_init 55 = .ok (.new 27, 3) := dq_at (q := (55, .new 27, 3)) dm_De_init_0 29 rfl
theorem dc_De_init_58 : decode cd_De_init 58 = .ok (.dup, 1) := dq_at (q := (58, .dup, 1)) dm_De_init_0 30 rfl
theorem dc_De_init_59 : decode cd_De_init 59 = .ok (.invokespecial 29, 3) := dq_at (q := (59, .invokespecial 29, 3)) dm_De_init_0 31 rfl
theorem dc_De_init_62 : decode cd_De_init 62 = .ok (.putfield 30, 3) := dq_at (q := (62, .putfield 30, 3)) dm_De_init_0 32 rfl
theorem dc_De_init_65 : decode cd_De_init 65 = .ok (.aload_n 0, 1) := dq_at (q := (65, .aload_n 0, 1)) dm_De_init_0 33 rfl
theorem dc_De_init_66 : decode cd_De_init 66 = .ok (.iconst 5, 1) := dq_at (q := (66, .iconst 5, 1)) dm_De_init_0 34 rfl
theorem dc_De_init_67 : decode cd_De_init 67 = .ok (.anewarray 34, 3) := dq_at (q := (67, .anewarray 34, 3)) dm_De_init_0 35 rfl
theorem dc_De_init_70 : decode cd_De_init 70 = .ok (.putfield 36, 3) := dq_at (q := (70, .putfield 36, 3)) dm_De_init_0 36 rfl
theorem dc_De_init_73 : decode cd_De_init 73 = .ok (.aload_n 0, 1) := dq_at (q := (73, .aload_n 0, 1)) dm_De_init_0 37 rfl
theorem dc_De_init_74 : decode cd_De_init 74 = .ok (.bipush 7, 2) := dq_at (q := (74, .bipush 7, 2)) dm_De_init_0 38 rfl
theorem dc_De_init_76 : decode cd_De_init 76 = .ok (.newarray .int, 2) := dq_at (q := (76, .newarray .int, 2)) dm_De_init_0 39 rfl
theorem dc_De_init_78 : decode cd_De_init 78 = .ok (.putfield 40, 3) := dq_at (q := (78, .putfield 40, 3)) dm_De_init_0 40 rfl
theorem dc_De_init_81 : decode cd_De_init 81 = .ok (.aload_n 0, 1) := dq_at (q := (81, .aload_n 0, 1)) dm_De_init_0 41 rfl
theorem dc_De_init_82 : decode cd_De_init 82 = .ok (.iconst (-1), 1) := dq_at (q := (82, .iconst (-1), 1)) dm_De_init_0 42 rfl
theorem dc_De_init_83 : decode cd_De_init 83 = .ok (.putfield 44, 3) := dq_at (q := (83, .putfield 44, 3)) dm_De_init_0 43 rfl
theorem dc_De_init_86 : decode cd_De_init 86 = .ok (.aload_n 0, 1) := dq_at (q := (86, .aload_n 0, 1)) dm_De_init_0 44 rfl
theorem dc_De_init_87 : decode cd_De_init 87 = .ok (.bipush 7, 2) := dq_at (q := (87, .bipush 7, 2)) dm_De_init_0 45 rfl
theorem dc_De_init_89 : decode cd_De_init 89 = .ok (.newarray .int, 2) := dq_at (q := (89, .newarray .int, 2)) dm_De_init_0 46 rfl
theorem dc_De_init_91 : decode cd_De_init 91 = .ok (.putfield 47, 3) := dq_at (q := (91, .putfield 47, 3)) dm_De_init_0 47 rfl
theorem dc_De_init_94 : decode cd_De_init 94 = .ok (.aload_n 0, 1) := dq_at (q := (94, .aload_n 0, 1)) dm_De_init_0 48 rfl
theorem dc_De_init_95 : decode cd_De_init 95 = .ok (.bipush 6, 2) := dq_at (q := (95, .bipush 6, 2)) dm_De_init_0 49 rfl
theorem dc_De_init_97 : decode cd_De_init 97 = .ok (.newarray .int, 2) := dq_at (q := (97, .newarray .int, 2)) dm_De_init_0 50 rfl
theorem dc_De_init_99 : decode cd_De_init 99 = .ok (.putfield 50, 3) := dq_at (q := (99, .putfield 50, 3)) dm_De_init_0 51 rfl
theorem dc_De_init_102 : decode cd_De_init 102 = .ok (.aload_n 0, 1) := dq_at (q := (102, .aload_n 0, 1)) dm_De_init_0 52 rfl
theorem dc_De_init_103 : decode cd_De_init 103 = .ok (.bipush 6, 2) := dq_at (q := (103, .bipush 6, 2)) dm_De_init_0 53 rfl
theorem dc_De_init_105 : decode cd_De_init 105 = .ok (.newarray .int, 2) := dq_at (q := (105, .newarray .int, 2)) dm_De_init_0 54 rfl
theorem dc_De_init_107 : decode cd_De_init 107 = .ok (.putfield 53, 3) := dq_at (q := (107, .putfield 53, 3)) dm_De_init_0 55 rfl
theorem dc_De_init_110 : decode cd_De_init 110 = .ok (.return_, 1) := dq_at (q := (110, .return_, 1)) dm_De_init_0 56 rfl
def dl_De_genes_0 : List (Nat × Instr × Nat) := [(0, .iload_n 1, 1), (1, .iconst 1, 1), (2, .if_icmp .lt 9, 3), (5, .iload_n 1, 1), (6, .bipush 6, 2), (8, .if_icmp .le 13, 3), (11, .new 56, 3), (14, .dup, 1), (15, .ldc 58, 2), (17, .invokespecial 60, 3), (20, .athrow, 1), (21, .aload_n 0, 1), (22, .iload_n 1, 1), (23, .putfield 9, 3), (26, .iconst 0, 1), (27, .istore_n 2, 1), (28, .iload_n 2, 1), (29, .iconst 5, 1), (30, .if_icmp .ge 18, 3), (33, .aload_n 0, 1), (34, .getfield 15, 3), (37, .iload_n 2, 1), (38, .aaload, 1), (39, .invokevirtual 63, 3), (42, .iinc 2 1, 3), (45, .goto (-17), 3), (48, .aload_n 0, 1), (49, .iconst (-1), 1), (50, .putfield 44, 3), (53, .return_, 1)]
theorem dm_De_genes_0 : dl_De_genes_0.all (fun q => decide (decode cd_De_genes q.1 = .ok (q.2.1, q.2.2))) = true := by decide +kernel
theorem dc_De_genes_0 : decode cd_De_genes 0 = .ok (.iload_n 1, 1) := dq_at (q := (0, .iload_n 1, 1)) dm_De_genes_0 0 rfl
theorem dc_De_genes_1 : decode cd_De_genes 1 = .ok (.iconst 1, 1) := dq_at (q := (1, .iconst 1, 1)) dm_De_genes_0 1 rfl
theorem dc_De_genes_2 : decode cd_De_genes 2 = .ok (.if_icmp .lt 9, 3) := dq_at (q := (2, .if_icmp .lt 9, 3)) dm_De_genes_0 2 rfl
theorem dc_De_genes_5 : decode cd_De_genes 5 = .ok (.iload_n 1, 1) := dq_at (q := (5, .iload_n 1, 1)) dm_De_genes_0 3 rfl
theorem dc_De_genes_6 : decode cd_De_genes 6 = .ok (.bipush 6, 2) := dq_at (q := (6, .bipush 6, 2)) dm_De_genes_0 4 rfl
theorem dc_De_genes_8 : decode cd_De_genes 8 = .ok (.if_icmp .le 13, 3) := dq_at (q := (8, .if_icmp .le 13, 3)) dm_De_genes_0 5 rfl
theorem dc_De_genes_11 : decode cd_De_genes 11 = .ok (.new 56, 3) := dq_at (q := (11, .new 56, 3)) dm_De_genes_0 6 rfl
theorem dc_De_genes_14 : decode cd_De_genes 14 = .ok (.dup, 1) := dq_at (q := (14, .dup, 1)) dm_De_genes_0 7 rfl
theorem dc_De_genes_15 : decode cd_De_genes 15 = .ok (.ldc 58, 2) := dq_at (q := (15, .ldc 58, 2)) dm_De_genes_0 8 rfl
theorem dc_De_genes_17 : decode cd_De_genes 17 = .ok (.invokespecial 60, 3) := dq_at (q := (17, .invokespecial 60, 3)) dm_De_genes_0 9 rfl
theorem dc_De_genes_20 : decode cd_De_genes 20 = .ok (.athrow, 1) := dq_at (q := (20, .athrow, 1)) dm_De_genes_0 10 rfl
theorem dc_De_genes_21 : decode cd_De_genes 21 = .ok (.aload_n 0, 1) := dq_at (q := (21, .aload_n 0, 1)) dm_De_genes_0 11 rfl
theorem dc_De_genes_22 : decode cd_De_genes 22 = .ok (.iload_n 1, 1) := dq_at (q := (22, .iload_n 1, 1)) dm_De_genes_0 12 rfl
theorem dc_De_genes_23 : decode cd_De_genes 23 = .ok (.putfield 9, 3) := dq_at (q := (23, .putfield 9, 3)) dm_De_genes_0 13 rfl
theorem dc_De_genes_26 : decode cd_De_genes 26 = .ok (.iconst 0, 1) := dq_at (q := (26, .iconst 0, 1)) dm_De_genes_0 14 rfl
theorem dc_De_genes_27 : decode cd_De_genes 27 = .ok (.istore_n 2, 1) := dq_at (q := (27, .istore_n 2, 1)) dm_De_genes_0 15 rfl
theorem dc_De_genes_28 : decode cd_De_genes 28 = .ok (.iload_n 2, 1) := dq_at (q := (28, .iload_n 2, 1)) dm_De_genes_0 16 rfl
theorem dc_De_genes_29 : decode cd_De_genes 29 = .ok (.iconst 5, 1) := dq_at (q := (29, .iconst 5, 1)) dm_De_genes_0 17 rfl
theorem dc_De_genes_30 : decode cd_De_genes 30 = .ok (.if_icmp .ge 18, 3) := dq_at (q := (30, .if_icmp .ge 18, 3)) dm_De_genes_0 18 rfl
theorem dc_De_genes_33 : decode cd_De_genes 33 = .ok (.aload_n 0, 1) := dq_at (q := (33, .aload_n 0, 1)) dm_De_genes_0 19 rfl
theorem dc_De_genes_34 : decode cd_De_genes 34 = .ok (.getfield 15, 3) := dq_at (q := (34, .getfield 15, 3)) dm_De_genes_0 20 rfl
theorem dc_De_genes_37 : decode cd_De_genes 37 = .ok (.iload_n 2, 1) := dq_at (q := (37, .iload_n 2, 1)) dm_De_genes_0 21 rfl
theorem dc_De_genes_38 : decode cd_De_genes 38 = .ok (.aaload, 1) := dq_at (q := (38, .aaload, 1)) dm_De_genes_0 22 rfl
theorem dc_De_genes_39 : decode cd_De_genes 39 = .ok (.invokevirtual 63, 3) := dq_at (q := (39, .invokevirtual 63, 3)) dm_De_genes_0 23 rfl
theorem dc_De_genes_42 : decode cd_De_genes 42 = .ok (.iinc 2 1, 3) := dq_at (q := (42, .iinc 2 1, 3)) dm_De_genes_0 24 rfl
theorem dc_De_genes_45 : decode cd_De_genes 45 = .ok (.goto (-17), 3) := dq_at (q := (45, .goto (-17), 3)) dm_De_genes_0 25 rfl
theorem dc_De_genes_48 : decode cd_De_genes 48 = .ok (.aload_n 0, 1) := dq_at (q := (48, .aload_n 0, 1)) dm_De_genes_0 26 rfl
theorem dc_De_genes_49 : decode cd_De_genes 49 = .ok (.iconst (-1), 1) := dq_at (q := (49, .iconst (-1), 1)) dm_De_genes_0 27 rfl
theorem dc_De_genes_50 : decode cd_De_genes 50 = .ok (.putfield 44, 3) := dq_at (q := (50, .putfield 44, 3)) dm_De_genes_0 28 rfl
theorem dc_De_genes_53 : decode cd_De_genes 53 = .ok (.return_, 1) := dq_at (q := (53, .return_, 1)) dm_De_genes_0 29 rfl
def dl_De_write_0 : List (Nat × Instr × Nat) := [(0, .aload_n 0, 1), (1, .getfield 23, 3), (4, .lload_n 1, 1), (5, .invokevirtual 66, 3), (8, .ireturn, 1)]
theorem dm_De_write_0 : dl_De_write_0.all (fun q => decide (decode cd_De_write q.1 = .ok (q.2.1, q.2.2))) = true := by decide +kernel
theorem dc_De_write_0 : decode cd_De_write 0 = .ok (.aload_n 0, 1) := dq_at (q := (0, .aload_n 0, 1)) dm_De_write_0 0 rfl
theorem dc_De_write_1 : decode cd_De_write 1 = .ok (.getfield 23, 3) := dq_at (q := (1, .getfield 23, 3)) dm_De_write_0 1 rfl
theorem dc_De_write_4 : decode cd_De_write 4 = .ok (.lload_n 1, 1) := dq_at (q := (4, .lload_n 1, 1)) dm_De_write_0 2 rfl
theorem dc_De_write_5 : decode cd_De_write 5 = .ok (.invokevirtual 66, 3) := dq_at (q := (5, .invokevirtual 66, 3)) dm_De_write_0 3 rfl
theorem dc_De_write_8 : decode cd_De_write 8 = .ok (.ireturn, 1) := dq_at (q := (8, .ireturn, 1)) dm_De_write_0 4 rfl
def dl_De_wipe_0 : List (Nat × Instr × Nat) := [(0, .aload_n 0, 1), (1, .getfield 23, 3), (4, .invokevirtual 70, 3), (7, .ireturn, 1)]
theorem dm_De_wipe_0 : dl_De_wipe_0.all (fun q => decide (decode cd_De_wipe q.1 = .ok (q.2.1, q.2.2))) = true := by decide +kernel
theorem dc_De_wipe_0 : decode cd_De_wipe 0 = .ok (.aload_n 0, 1) := dq_at (q := (0, .aload_n 0, 1)) dm_De_wipe_0 0 rfl
theorem dc_De_wipe_1 : decode cd_De_wipe 1 = .ok (.getfield 23, 3) := dq_at (q := (1, .getfield 23, 3)) dm_De_wipe_0 1 rfl
theorem dc_De_wipe_4 : decode cd_De_wipe 4 = .ok (.invokevirtual 70, 3) := dq_at (q := (4, .invokevirtual 70, 3)) dm_De_wipe_0 2 rfl
theorem dc_De_wipe_7 : decode cd_De_wipe 7 = .ok (.ireturn, 1) := dq_at (q := (7, .ireturn, 1)) dm_De_wipe_0 3 rfl
def dl_De_read_0 : List (Nat × Instr × Nat) := [(0, .iload_n 1, 1), (1, .invokestatic 74, 3), (4, .aload_n 0, 1), (5, .getfield 23, 3), (8, .aload_n 0, 1), (9, .getfield 53, 3), (12, .aload_n 0, 1), (13, .getfield 9, 3), (16, .invokevirtual 78, 3), (19, .istore_n 2, 1), (20, .iload_n 2, 1), (21, .iconst (-1), 1), (22, .if_icmp .ne 24, 3), (25, .aload_n 0, 1), (26, .getfield 15, 3), (29, .iload_n 1, 1), (30, .aaload, 1), (31, .aload_n 0, 1), (32, .getfield 53, 3), (35, .invokevirtual 82, 3), (38, .aload_n 0, 1), (39, .getfield 23, 3), (42, .invokevirtual 70, 3), (45, .pop, 1), (46, .iload_n 2, 1), (47, .ireturn, 1)]
theorem dm_De_read_0 : dl_De_read_0.all (fun q => decide (decode cd_De_read q.1 = .ok (q.2.1, q.2.2))) = true := by decide +kernel
theorem dc_De_read_0 : decode cd_De_read 0 = .ok (.iload_n 1, 1) := dq_at (q := (0, .iload_n 1, 1)) dm_De_read_0 0 rfl
theorem dc_De_read_1 : decode cd_De_read 1 = .ok (.invokestatic 74, 3) := dq_at (q := (1, .invokestatic 74, 3)) dm_De_read_0 1 rfl
theorem dc_De_read_4 : decode cd_De_read 4 = .ok (.aload_n 0, 1) := dq_at (q := (4, .aload_n 0, 1)) dm_De_read_0 2 rfl
theorem dc_De_read_5 : decode cd_De_read 5 = .ok (.getfield 23, 3) := dq_at (q := (5, .getfield 23, 3)) dm_De_read_0 3 rfl
theorem dc_De_read_8 : decode cd_De_read 8 = .ok (.aload_n 0, 1) := dq_at (q := (8, .aload_n 0, 1)) dm_De_read_0 4 rfl
theorem dc_De_read_9 : decode cd_De_read 9 = .ok (.getfield 53, 3) := dq_at (q := (9, .getfield 53, 3)) dm_De_read_0 5 rfl
theorem dc_De_read_12 : decode cd_De_read 12 = .ok (.aload_n 0, 1) := dq_at (q := (12, .aload_n 0, 1)) dm_De_read_0 6 rfl
theorem dc_De_read_13 : decode cd_De_read 13 = .ok (.getfield 9, 3) := dq_at (q := (13, .getfield 9, 3)) dm_De_read_0 7 rfl
theorem dc_De_read_16 : decode cd_De_read 16 = .ok (.invokevirtual 78, 3) := dq_at (q := (16, .invokevirtual 78, 3)) dm_De_read_0 8 rfl
theorem dc_De_read_19 : decode cd_De_read 19 = .ok (.istore_n 2, 1) := dq_at (q := (19, .istore_n 2, 1)) dm_De_read_0 9 rfl
theorem dc_De_read_20 : decode cd_De_read 20 = .ok (.iload_n 2, 1) := dq_at (q := (20, .iload_n 2, 1)) dm_De_read_0 10 rfl
theorem dc_De_read_21 : decode cd_De_read 21 = .ok (.iconst (-1), 1) := dq_at (q := (21, .iconst (-1), 1)) dm_De_read_0 11 rfl
theorem dc_De_read_22 : decode cd_De_read 22 = .ok (.if_icmp .ne 24, 3) := dq_at (q := (22, .if_icmp .ne 24, 3)) dm_De_read_0 12 rfl
theorem dc_De_read_25 : decode cd_De_read 25 = .ok (.aload_n 0, 1) := dq_at (q := (25, .aload_n 0, 1)) dm_De_read_0 13 rfl
theorem dc_De_read_26 : decode cd_De_read 26 = .ok (.getfield 15, 3) := dq_at (q := (26, .getfield 15, 3)) dm_De_read_0 14 rfl
theorem dc_De_read_29 : decode cd_De_read 29 = .ok (.iload_n 1, 1) := dq_at (q := (29, .iload_n 1, 1)) dm_De_read_0 15 rfl
theorem dc_De_read_30 : decode cd_De_read 30 = .ok (.aaload, 1) := dq_at (q := (30, .aaload, 1)) dm_De_read_0 16 rfl
theorem dc_De_read_31 : decode cd_De_read 31 = .ok (.aload_n 0, 1) := dq_at (q := (31, .aload_n 0, 1)) dm_De_read_0 17 rfl
theorem dc_De_read_32 : decode cd_De_read 32 = .ok (.getfield 53, 3) := dq_at (q := (32, .getfield 53, 3)) dm_De_read_0 18 rfl
theorem dc_De_read_35 : decode cd_De_read 35 = .ok (.invokevirtual 82, 3) := dq_at (q := (35, .invokevirtual 82, 3)) dm_De_read_0 19 rfl
theorem dc_De_read_38 : decode cd_De_read 38 = .ok (.aload_n 0, 1) := dq_at (q := (38, .aload_n 0, 1)) dm_De_read_0 20 rfl
theorem dc_De_read_39 : decode cd_De_read 39 = .ok (.getfield 23, 3) := dq_at (q := (39, .getfield 23, 3)) dm_De_read_0 21 rfl
theorem dc_De_read_42 : decode cd_De_read 42 = .ok (.invokevirtual 70, 3) := dq_at (q := (42, .invokevirtual 70, 3)) dm_De_read_0 22 rfl
theorem dc_De_read_45 : decode cd_De_read 45 = .ok (.pop, 1) := dq_at (q := (45, .pop, 1)) dm_De_read_0 23 rfl
theorem dc_De_read_46 : decode cd_De_read 46 = .ok (.iload_n 2, 1) := dq_at (q := (46, .iload_n 2, 1)) dm_De_read_0 24 rfl
theorem dc_De_read_47 : decode cd_De_read 47 = .ok (.ireturn, 1) := dq_at (q := (47, .ireturn, 1)) dm_De_read_0 25 rfl
def dl_De_gene_0 : List (Nat × Instr × Nat) := [(0, .iload_n 1, 1), (1, .invokestatic 74, 3), (4, .iload_n 2, 1), (5, .ifCond .lt 11, 3), (8, .iload_n 2, 1), (9, .aload_n 0, 1), (10, .getfield 9, 3), (13, .if_icmp .lt 13, 3), (16, .new 86, 3), (19, .dup, 1), (20, .ldc 88, 2), (22, .invokespecial 90, 3), (25, .athrow, 1), (26, .aload_n 0, 1), (27, .getfield 15, 3), (30, .iload_n 1, 1), (31, .aaload, 1), (32, .getfield 91, 3), (35, .iload_n 2, 1), (36, .iaload, 1), (37, .ireturn, 1)]
theorem dm_De_gene_0 : dl_De_gene_0.all (fun q => decide (decode cd_De_gene q.1 = .ok (q.2.1, q.2.2))) = true := by decide +kernel
theorem dc_De_gene_0 : decode cd_De_gene 0 = .ok (.iload_n 1, 1) := dq_at (q := (0, .iload_n 1, 1)) dm_De_gene_0 0 rfl
theorem dc_De_gene_1 : decode cd_De_gene 1 = .ok (.invokestatic 74, 3) := dq_at (q := (1, .invokestatic 74, 3)) dm_De_gene_0 1 rfl
theorem dc_De_gene_4 : decode cd_De_gene 4 = .ok (.iload_n 2, 1) := dq_at (q := (4, .iload_n 2, 1)) dm_De_gene_0 2 rfl
theorem dc_De_gene_5 : decode cd_De_gene 5 = .ok (.ifCond .lt 11, 3) := dq_at (q := (5, .ifCond .lt 11, 3)) dm_De_gene_0 3 rfl
theorem dc_De_gene_8 : decode cd_De_gene 8 = .ok (.iload_n 2, 1) := dq_at (q := (8, .iload_n 2, 1)) dm_De_gene_0 4 rfl
theorem dc_De_gene_9 : decode cd_De_gene 9 = .ok (.aload_n 0, 1) := dq_at (q := (9, .aload_n 0, 1)) dm_De_gene_0 5 rfl
theorem dc_De_gene_10 : decode cd_De_gene 10 = .ok (.getfield 9, 3) := dq_at (q := (10, .getfield 9, 3)) dm_De_gene_0 6 rfl
theorem dc_De_gene_13 : decode cd_De_gene 13 = .ok (.if_icmp .lt 13, 3) := dq_at (q := (13, .if_icmp .lt 13, 3)) dm_De_gene_0 7 rfl
theorem dc_De_gene_16 : decode cd_De_gene 16 = .ok (.new 86, 3) := dq_at (q := (16, .new 86, 3)) dm_De_gene_0 8 rfl
theorem dc_De_gene_19 : decode cd_De_gene 19 = .ok (.dup, 1) := dq_at (q := (19, .dup, 1)) dm_De_gene_0 9 rfl
theorem dc_De_gene_20 : decode cd_De_gene 20 = .ok (.ldc 88, 2) := dq_at (q := (20, .ldc 88, 2)) dm_De_gene_0 10 rfl
theorem dc_De_gene_22 : decode cd_De_gene 22 = .ok (.invokespecial 90, 3) := dq_at (q := (22, .invokespecial 90, 3)) dm_De_gene_0 11 rfl
theorem dc_De_gene_25 : decode cd_De_gene 25 = .ok (.athrow, 1) := dq_at (q := (25, .athrow, 1)) dm_De_gene_0 12 rfl
theorem dc_De_gene_26 : decode cd_De_gene 26 = .ok (.aload_n 0, 1) := dq_at (q := (26, .aload_n 0, 1)) dm_De_gene_0 13 rfl
theorem dc_De_gene_27 : decode cd_De_gene 27 = .ok (.getfield 15, 3) := dq_at (q := (27, .getfield 15, 3)) dm_De_gene_0 14 rfl
theorem dc_De_gene_30 : decode cd_De_gene 30 = .ok (.iload_n 1, 1) := dq_at (q := (30, .iload_n 1, 1)) dm_De_gene_0 15 rfl
theorem dc_De_gene_31 : decode cd_De_gene 31 = .ok (.aaload, 1) := dq_at (q := (31, .aaload, 1)) dm_De_gene_0 16 rfl
theorem dc_De_gene_32 : decode cd_De_gene 32 = .ok (.getfield 91, 3) := dq_at (q := (32, .getfield 91, 3)) dm_De_gene_0 17 rfl
theorem dc_De_gene_35 : decode cd_De_gene 35 = .ok (.iload_n 2, 1) := dq_at (q := (35, .iload_n 2, 1)) dm_De_gene_0 18 rfl
theorem dc_De_gene_36 : decode cd_De_gene 36 = .ok (.iaload, 1) := dq_at (q := (36, .iaload, 1)) dm_De_gene_0 19 rfl
theorem dc_De_gene_37 : decode cd_De_gene 37 = .ok (.ireturn, 1) := dq_at (q := (37, .ireturn, 1)) dm_De_gene_0 20 rfl
def dl_De_copy_0 : List (Nat × Instr × Nat) := [(0, .iload_n 1, 1), (1, .iload_n 2, 1), (2, .invokestatic 94, 3), (5, .aload_n 0, 1), (6, .getfield 15, 3), (9, .iload_n 2, 1), (10, .aaload, 1), (11, .aload_n 0, 1), (12, .getfield 15, 3), (15, .iload_n 1, 1), (16, .aaload, 1), (17, .getfield 91, 3), (20, .invokevirtual 82, 3), (23, .return_, 1)]
theorem dm_De_copy_0 : dl_De_copy_0.all (fun q => decide (decode cd_De_copy q.1 = .ok (q.2.1, q.2.2))) = true := by decide +kernel
theorem dc_De_copy_0 : decode cd_De_copy 0 = .ok (.iload_n 1, 1) := dq_at (q := (0, .iload_n 1, 1)) dm_De_copy_0 0 rfl
theorem dc_De_copy_1 : decode cd_De_copy 1 = .ok (.iload_n 2, 1) := dq_at (q := (1, .iload_n 2, 1)) dm_De_copy_0 1 rfl
theorem dc_De_copy_2 : decode cd_De_copy 2 = .ok (.invokestatic 94, 3) := dq_at (q := (2, .invokestatic 94, 3)) dm_De_copy_0 2 rfl
theorem dc_De_copy_5 : decode cd_De_copy 5 = .ok (.aload_n 0, 1) := dq_at (q := (5, .aload_n 0, 1)) dm_De_copy_0 3 rfl
theorem dc_De_copy_6 : decode cd_De_copy 6 = .ok (.getfield 15, 3) := dq_at (q := (6, .getfield 15, 3)) dm_De_copy_0 4 rfl
theorem dc_De_copy_9 : decode cd_De_copy 9 = .ok (.iload_n 2, 1) := dq_at (q := (9, .iload_n 2, 1)) dm_De_copy_0 5 rfl
theorem dc_De_copy_10 : decode cd_De_copy 10 = .ok (.aaload, 1) := dq_at (q := (10, .aaload, 1)) dm_De_copy_0 6 rfl
theorem dc_De_copy_11 : decode cd_De_copy 11 = .ok (.aload_n 0, 1) := dq_at (q := (11, .aload_n 0, 1)) dm_De_copy_0 7 rfl
theorem dc_De_copy_12 : decode cd_De_copy 12 = .ok (.getfield 15, 3) := dq_at (q := (12, .getfield 15, 3)) dm_De_copy_0 8 rfl
theorem dc_De_copy_15 : decode cd_De_copy 15 = .ok (.iload_n 1, 1) := dq_at (q := (15, .iload_n 1, 1)) dm_De_copy_0 9 rfl
theorem dc_De_copy_16 : decode cd_De_copy 16 = .ok (.aaload, 1) := dq_at (q := (16, .aaload, 1)) dm_De_copy_0 10 rfl
theorem dc_De_copy_17 : decode cd_De_copy 17 = .ok (.getfield 91, 3) := dq_at (q := (17, .getfield 91, 3)) dm_De_copy_0 11 rfl
theorem dc_De_copy_20 : decode cd_De_copy 20 = .ok (.invokevirtual 82, 3) := dq_at (q := (20, .invokevirtual 82, 3)) dm_De_copy_0 12 rfl
theorem dc_De_copy_23 : decode cd_De_copy 23 = .ok (.return_, 1) := dq_at (q := (23, .return_, 1)) dm_De_copy_0 13 rfl
def dl_De_reverse_0 : List (Nat × Instr × Nat) := [(0, .iload_n 1, 1), (1, .invokestatic 74, 3), (4, .iload_n 2, 1), (5, .ifCond .lt 16, 3), (8, .iload_n 3, 1), (9, .aload_n 0, 1), (10, .getfield 9, 3), (13, .if_icmp .ge 8, 3), (16, .iload_n 2, 1), (17, .iload_n 3, 1), (18, .if_icmp .le 13, 3), (21, .new 86, 3), (24, .dup, 1), (25, .ldc 98, 2), (27, .invokespecial 90, 3), (30, .athrow, 1), (31, .aload_n 0, 1), (32, .getfield 15, 3), (35, .iload_n 1, 1), (36, .aaload, 1), (37, .iload_n 2, 1), (38, .iload_n 3, 1), (39, .invokevirtual 100, 3), (42, .return_, 1)]
theorem dm_De_reverse_0 : dl_De_reverse_0.all (fun q => decide (decode cd_De_reverse q.1 = .ok (q.2.1, q.2.2))) = true := by decide +kernel
theorem dc_De_reverse_0 : decode cd_De_reverse 0 = .ok (.iload_n 1, 1) := dq_at (q := (0, .iload_n 1, 1)) dm_De_reverse_0 0 rfl
theorem dc_De_reverse_1 : decode cd_De_reverse 1 = .ok (.invokestatic 74, 3) := dq_at (q := (1, .invokestatic 74, 3)) dm_De_reverse_0 1 rfl
theorem dc_De_reverse_4 : decode cd_De_reverse 4 = .ok (.iload_n 2, 1) := dq_at (q := (4, .iload_n 2, 1)) dm_De_reverse_0 2 rfl
theorem dc_De_reverse_5 : decode cd_De_reverse 5 = .ok (.ifCond .lt 16, 3) := dq_at (q := (5, .ifCond .lt 16, 3)) dm_De_reverse_0 3 rfl
theorem dc_De_reverse_8 : decode cd_De_reverse 8 = .ok (.iload_n 3, 1) := dq_at (q := (8, .iload_n 3, 1)) dm_De_reverse_0 4 rfl
theorem dc_De_reverse_9 : decode cd_De_reverse 9 = .ok (.aload_n 0, 1) := dq_at (q := (9, .aload_n 0, 1)) dm_De_reverse_0 5 rfl
theorem dc_De_reverse_10 : decode cd_De_reverse 10 = .ok (.getfield 9, 3) := dq_at (q := (10, .getfield 9, 3)) dm_De_reverse_0 6 rfl
theorem dc_De_reverse_13 : decode cd_De_reverse 13 = .ok (.if_icmp .ge 8, 3) := dq_at (q := (13, .if_icmp .ge 8, 3)) dm_De_reverse_0 7 rfl
theorem dc_De_reverse_16 : decode cd_De_reverse 16 = .ok (.iload_n 2, 1) := dq_at (q := (16, .iload_n 2, 1)) dm_De_reverse_0 8 rfl
theorem dc_De_reverse_17 : decode cd_De_reverse 17 = .ok (.iload_n 3, 1) := dq_at (q := (17, .iload_n 3, 1)) dm_De_reverse_0 9 rfl
theorem dc_De_reverse_18 : decode cd_De_reverse 18 = .ok (.if_icmp .le 13, 3) := dq_at (q := (18, .if_icmp .le 13, 3)) dm_De_reverse_0 10 rfl
theorem dc_De_reverse_21 : decode cd_De_reverse 21 = .ok (.new 86, 3) := dq_at (q := (21, .new 86, 3)) dm_De_reverse_0 11 rfl
theorem dc_De_reverse_24 : decode cd_De_reverse 24 = .ok (.dup, 1) := dq_at (q := (24, .dup, 1)) dm_De_reverse_0 12 rfl
theorem dc_De_reverse_25 : decode cd_De_reverse 25 = .ok (.ldc 98, 2) := dq_at (q := (25, .ldc 98, 2)) dm_De_reverse_0 13 rfl
theorem dc_De_reverse_27 : decode cd_De_reverse 27 = .ok (.invokespecial 90, 3) := dq_at (q := (27, .invokespecial 90, 3)) dm_De_reverse_0 14 rfl
theorem dc_De_reverse_30 : decode cd_De_reverse 30 = .ok (.athrow, 1) := dq_at (q := (30, .athrow, 1)) dm_De_reverse_0 15 rfl
theorem dc_De_reverse_31 : decode cd_De_reverse 31 = .ok (.aload_n 0, 1) := dq_at (q := (31, .aload_n 0, 1)) dm_De_reverse_0 16 rfl
theorem dc_De_reverse_32 : decode cd_De_reverse 32 = .ok (.getfield 15, 3) := dq_at (q := (32, .getfield 15, 3)) dm_De_reverse_0 17 rfl
theorem dc_De_reverse_35 : decode cd_De_reverse 35 = .ok (.iload_n 1, 1) := dq_at (q := (35, .iload_n 1, 1)) dm_De_reverse_0 18 rfl
theorem dc_De_reverse_36 : decode cd_De_reverse 36 = .ok (.aaload, 1) := dq_at (q := (36, .aaload, 1)) dm_De_reverse_0 19 rfl
theorem dc_De_reverse_37 : decode cd_De_reverse 37 = .ok (.iload_n 2, 1) := dq_at (q := (37, .iload_n 2, 1)) dm_De_reverse_0 20 rfl
theorem dc_De_reverse_38 : decode cd_De_reverse 38 = .ok (.iload_n 3, 1) := dq_at (q := (38, .iload_n 3, 1)) dm_De_reverse_0 21 rfl
theorem dc_De_reverse_39 : decode cd_De_reverse 39 = .ok (.invokevirtual 100, 3) := dq_at (q := (39, .invokevirtual 100, 3)) dm_De_reverse_0 22 rfl
theorem dc_De_reverse_42 : decode cd_De_reverse 42 = .ok (.return_, 1) := dq_at (q := (42, .return_, 1)) dm_De_reverse_0 23 rfl
def dl_De_undo_0 : List (Nat × Instr × Nat) := [(0, .iload_n 1, 1), (1, .invokestatic 74, 3), (4, .aload_n 0, 1), (5, .getfield 15, 3), (8, .iload_n 1, 1), (9, .aaload, 1), (10, .invokevirtual 103, 3), (13, .ireturn, 1)]
theorem dm_De_undo_0 : dl_De_undo_0.all (fun q => decide (decode cd_De_undo q.1 = .ok (q.2.1, q.2.2))) = true := by decide +kernel
theorem dc_De_undo_0 : decode cd_De_undo 0 = .ok (.iload_n 1, 1) := dq_at (q := (0, .iload_n 1, 1)) dm_De_undo_0 0 rfl
theorem dc_De_undo_1 : decode cd_De_undo 1 = .ok (.invokestatic 74, 3) := dq_at (q := (1, .invokestatic 74, 3)) dm_De_undo_0 1 rfl
theorem dc_De_undo_4 : decode cd_De_undo 4 = .ok (.aload_n 0, 1) := dq_at (q := (4, .aload_n 0, 1)) dm_De_undo_0 2 rfl
theorem dc_De_undo_5 : decode cd_De_undo 5 = .ok (.getfield 15, 3) := dq_at (q := (5, .getfield 15, 3)) dm_De_undo_0 3 rfl
theorem dc_De_undo_8 : decode cd_De_undo 8 = .ok (.iload_n 1, 1) := dq_at (q := (8, .iload_n 1, 1)) dm_De_undo_0 4 rfl
theorem dc_De_undo_9 : decode cd_De_undo 9 = .ok (.aaload, 1) := dq_at (q := (9, .aaload, 1)) dm_De_undo_0 5 rfl
theorem dc_De_undo_10 : decode cd_De_undo 10 = .ok (.invokevirtual 103, 3) := dq_at (q := (10, .invokevirtual 103, 3)) dm_De_undo_0 6 rfl
theorem dc_De_undo_13 : decode cd_De_undo 13 = .ok (.ireturn, 1) := dq_at (q := (13, .ireturn, 1)) dm_De_undo_0 7 rfl
def dl_De_distance_0 : List (Nat × Instr × Nat) := [(0, .iload_n 1, 1), (1, .iload_n 2, 1), (2, .invokestatic 94, 3), (5, .aload_n 0, 1), (6, .iload_n 1, 1), (7, .iload_n 2, 1), (8, .invokevirtual 107, 3), (11, .aload_n 0, 1), (12, .getfield 30, 3), (15, .invokevirtual 110, 3), (18, .ireturn, 1)]
theorem dm_De_distance_0 : dl_De_distance_0.all (fun q => decide (decode cd_De_distance q.1 = .ok (q.2.1, q.2.2))) = true := by decide +kernel
theorem dc_De_distance_0 : decode cd_De_distance 0 = .ok (.iload_n 1, 1) := dq_at (q := (0, .iload_n 1, 1)) dm_De_distance_0 0 rfl
theorem dc_De_distance_1 : decode cd_De_distance 1 = .ok (.iload_n 2, 1) := dq_at (q := (1, .iload_n 2, 1)) dm_De_distance_0 1 rfl
theorem dc_De_distance_2 : decode cd_De_distance 2 = .ok (.invokestatic 94, 3) := dq_at (q := (2, .invokestatic 94, 3)) dm_De_distance_0 2 rfl
theorem dc_De_distance_5 : decode cd_De_distance 5 = .ok (.aload_n 0, 1) := dq_at (q := (5, .aload_n 0, 1)) dm_De_distance_0 3 rfl
theorem dc_De_distance_6 : decode cd_De_distance 6 = .ok (.iload_n 1, 1) := dq_at (q := (6, .iload_n 1, 1)) dm_De_distance_0 4 rfl
theorem dc_De_distance_7 : decode cd_De_distance 7 = .ok (.iload_n 2, 1) := dq_at (q := (7, .iload_n 2, 1)) dm_De_distance_0 5 rfl
theorem dc_De_distance_8 : decode cd_De_distance 8 = .ok (.invokevirtual 107, 3) := dq_at (q := (8, .invokevirtual 107, 3)) dm_De_distance_0 6 rfl
theorem dc_De_distance_11 : decode cd_De_distance 11 = .ok (.aload_n 0, 1) := dq_at (q := (11, .aload_n 0, 1)) dm_De_distance_0 7 rfl
theorem dc_De_distance_12 : decode cd_De_distance 12 = .ok (.getfield 30, 3) := dq_at (q := (12, .getfield 30, 3)) dm_De_distance_0 8 rfl
theorem dc_De_distance_15 : decode cd_De_distance 15 = .ok (.invokevirtual 110, 3) := dq_at (q := (15, .invokevirtual 110, 3)) dm_De_distance_0 9 rfl
theorem dc_De_distance_18 : decode cd_De_distance 18 = .ok (.ireturn, 1) := dq_at (q := (18, .ireturn, 1)) dm_De_distance_0 10 rfl
def dl_De_drawing_0 : List (Nat × Instr × Nat) := [(0, .iload_n 1, 1), (1, .iload_n 2, 1), (2, .invokestatic 94, 3), (5, .iload_n 3, 1), (6, .ifCond .lt 8, 3), (9, .iload_n 3, 1), (10, .iconst 5, 1), (11, .if_icmp .le 13, 3), (14, .new 56, 3), (17, .dup, 1), (18, .ldc 113, 2), (20, .invokespecial 60, 3), (23, .athrow, 1), (24, .aload_n 0, 1), (25, .iload_n 1, 1), (26, .iload_n 2, 1), (27, .invokevirtual 107, 3), (30, .iload_n 3, 1), (31, .tableswitch 73 0 4 #[33, 41, 49, 57, 65], 33), (64, .aload_n 0, 1), (65, .getfield 30, 3), (68, .invokevirtual 115, 3), (71, .ireturn, 1), (72, .aload_n 0, 1), (73, .getfield 30, 3), (76, .invokevirtual 118, 3), (79, .ireturn, 1), (80, .aload_n 0, 1), (81, .getfield 30, 3), (84, .invokevirtual 121, 3), (87, .ireturn, 1), (88, .aload_n 0, 1), (89, .getfield 30, 3), (92, .invokevirtual 124, 3), (95, .ireturn, 1), (96, .aload_n 0, 1), (97, .getfield 30, 3), (100, .invokevirtual 127, 3), (103, .ireturn, 1), (104, .aload_n 0, 1), (105, .getfield 30, 3), (108, .invokevirtual 130, 3), (111, .ireturn, 1)]
theorem dm_De_drawing_0 : dl_De_drawing_0.all (fun q => decide (decode cd_De_drawing q.1 = .ok (q.2.1, q.2.2))) = true := by decide +kernel
theorem dc_De_drawing_0 : decode cd_De_drawing 0 = .ok (.iload_n 1, 1) := dq_at (q := (0, .iload_n 1, 1)) dm_De_drawing_0 0 rfl
theorem dc_De_drawing_1 : decode cd_De_drawing 1 = .ok (.iload_n 2, 1) := dq_at (q := (1, .iload_n 2, 1)) dm_De_drawing_0 1 rfl
theorem dc_De_drawing_2 : decode cd_De_drawing 2 = .ok (.invokestatic 94, 3) := dq_at (q := (2, .invokestatic 94, 3)) dm_De_drawing_0 2 rfl
theorem dc_De_drawing_5 : decode cd_De_drawing 5 = .ok (.iload_n 3, 1) := dq_at (q := (5, .iload_n 3, 1)) dm_De_drawing_0 3 rfl
theorem dc_De_drawing_6 : decode cd_De_drawing 6 = .ok (.ifCond .lt 8, 3) := dq_at (q := (6, .ifCond .lt 8, 3)) dm_De_drawing_0 4 rfl
theorem dc_De_drawing_9 : decode cd_De_drawing 9 = .ok (.iload_n 3, 1) := dq_at (q := (9, .iload_n 3, 1)) dm_De_drawing_0 5 rfl
theorem dc_De_drawing_10 : decode cd_De_drawing 10 = .ok (.iconst 5, 1) := dq_at (q := (10, .iconst 5, 1)) dm_De_drawing_0 6 rfl
theorem dc_De_drawing_11 : decode cd_De_drawing 11 = .ok (.if_icmp .le 13, 3) := dq_at (q := (11, .if_icmp .le 13, 3)) dm_De_drawing_0 7 rfl
theorem dc_De_drawing_14 : decode cd_De_drawing 14 = .ok (.new 56, 3) := dq_at (q := (14, .new 56, 3)) dm_De_drawing_0 8 rfl
theorem dc_De_drawing_17 : decode cd_De_drawing 17 = .ok (.dup, 1) := dq_at (q := (17, .dup, 1)) dm_De_drawing_0 9 rfl
theorem dc_De_drawing_18 : decode cd_De_drawing 18 = .ok (.ldc 113, 2) := dq_at (q := (18, .ldc 113, 2)) dm_De_drawing_0 10 rfl
theorem dc_De_drawing_20 : decode cd_De_drawing 20 = .ok (.invokespecial 60, 3) := dq_at (q := (20, .invokespecial 60, 3)) dm_De_drawing_0 11 rfl
theorem dc_De_drawing_23 : decode cd_De_drawing 23 = .ok (.athrow, 1) := dq_at (q := (23, .athrow, 1)) dm_De_drawing_0 12 rfl
theorem dc_De_drawing_24 : decode cd_De_drawing 24 = .ok (.aload_n 0, 1) := dq_at (q := (24, .aload_n 0, 1)) dm_De_drawing_0 13 rfl
theorem dc_De_drawing_25 : decode cd_De_drawing 25 = .ok (.iload_n 1, 1) := dq_at (q := (25, .iload_n 1, 1)) dm_De_drawing_0 14 rfl
theorem dc_De_drawing_26 : decode cd_De_drawing 26 = .ok (.iload_n 2, 1) := dq_at (q := (26, .iload_n 2, 1)) dm_De_drawing_0 15 rfl
theorem dc_De_drawing_27 : decode cd_De_drawing 27 = .ok (.invokevirtual 107, 3) := dq_at (q := (27, .invokevirtual 107, 3)) dm_De_drawing_0 16 rfl
theorem dc_De_drawing_30 : decode cd_De_drawing 30 = .ok (.iload_n 3, 1) := dq_at (q := (30, .iload_n 3, 1)) dm_De_drawing_0 17 rfl
theorem dc_De_drawing_31 : decode cd_De_drawing 31 = .ok (.tableswitch 73 0 4 #[33, 41, 49, 57, 65], 33) := dq_at (q := (31, .tableswitch 73 0 4 #[33, 41, 49, 57, 65], 33)) dm_De_drawing_0 18 rfl
theorem dc_De_drawing_64 : decode cd_De_drawing 64 = .ok (.aload_n 0, 1) := dq_at (q := (64, .aload_n 0, 1)) dm_De_drawing_0 19 rfl
theorem dc_De_drawing_65 : decode cd_De_drawing 65 = .ok (.getfield 30, 3) := dq_at (q := (65, .getfield 30, 3)) dm_De_drawing_0 20 rfl
theorem dc_De_drawing_68 : decode cd_De_drawing 68 = .ok (.invokevirtual 115, 3) := dq_at (q := (68, .invokevirtual 115, 3)) dm_De_drawing_0 21 rfl
theorem dc_De_drawing_71 : decode cd_De_drawing 71 = .ok (.ireturn, 1) := dq_at (q := (71, .ireturn, 1)) dm_De_drawing_0 22 rfl
theorem dc_De_drawing_72 : decode cd_De_drawing 72 = .ok (.aload_n 0, 1) := dq_at (q := (72, .aload_n 0, 1)) dm_De_drawing_0 23 rfl
theorem dc_De_drawing_73 : decode cd_De_drawing 73 = .ok (.getfield 30, 3) := dq_at (q := (73, .getfield 30, 3)) dm_De_drawing_0 24 rfl
theorem dc_De_drawing_76 : decode cd_De_drawing 76 = .ok (.invokevirtual 118, 3) := dq_at (q := (76, .invokevirtual 118, 3)) dm_De_drawing_0 25 rfl
theorem dc_De_drawing_79 : decode cd_De_drawing 79 = .ok (.ireturn, 1) := dq_at (q := (79, .ireturn, 1)) dm_De_drawing_0 26 rfl
theorem dc_De_drawing_80 : decode cd_De_drawing 80 = .ok (.aload_n 0, 1) := dq_at (q := (80, .aload_n 0, 1)) dm_De_drawing_0 27 rfl
theorem dc_De_drawing_81 : decode cd_De_drawing 81 = .ok (.getfield 30, 3) := dq_at (q := (81, .getfield 30, 3)) dm_De_drawing_0 28 rfl
theorem dc_De_drawing_84 : decode cd_De_drawing 84 = .ok (.invokevirtual 121, 3) := dq_at (q := (84, .invokevirtual 121, 3)) dm_De_drawing_0 29 rfl
theorem dc_De_drawing_87 : decode cd_De_drawing 87 = .ok (.ireturn, 1) := dq_at (q := (87, .ireturn, 1)) dm_De_drawing_0 30 rfl
theorem dc_De_drawing_88 : decode cd_De_drawing 88 = .ok (.aload_n 0, 1) := dq_at (q := (88, .aload_n 0, 1)) dm_De_drawing_0 31 rfl
theorem dc_De_drawing_89 : decode cd_De_drawing 89 = .ok (.getfield 30, 3) := dq_at (q := (89, .getfield 30, 3)) dm_De_drawing_0 32 rfl
theorem dc_De_drawing_92 : decode cd_De_drawing 92 = .ok (.invokevirtual 124, 3) := dq_at (q := (92, .invokevirtual 124, 3)) dm_De_drawing_0 33 rfl
theorem dc_De_drawing_95 : decode cd_De_drawing 95 = .ok (.ireturn, 1) := dq_at (q := (95, .ireturn, 1)) dm_De_drawing_0 34 rfl
theorem dc_De_drawing_96 : decode cd_De_drawing 96 = .ok (.aload_n 0, 1) := dq_at (q := (96, .aload_n 0, 1)) dm_De_drawing_0 35 rfl
theorem dc_De_drawing_97 : decode cd_De_drawing 97 = .ok (.getfield 30, 3) := dq_at (q := (97, .getfield 30, 3)) dm_De_drawing_0 36 rfl
theorem dc_De_drawing_100 : decode cd_De_drawing 100 = .ok (.invokevirtual 127, 3) := dq_at (q := (100, .invokevirtual 127, 3)) dm_De_drawing_0 37 rfl
theorem dc_De_drawing_103 : decode cd_De_drawing 103 = .ok (.ireturn, 1) := dq_at (q := (103, .ireturn, 1)) dm_De_drawing_0 38 rfl
theorem dc_De_drawing_104 : decode cd_De_drawing 104 = .ok (.aload_n 0, 1) := dq_at (q := (104, .aload_n 0, 1)) dm_De_drawing_0 39 rfl
theorem dc_De_drawing_105 : decode cd_De_drawing 105 = .ok (.getfield 30, 3) := dq_at (q := (105, .getfield 30, 3)) dm_De_drawing_0 40 rfl
theorem dc_De_drawing_108 : decode cd_De_drawing 108 = .ok (.invokevirtual 130, 3) := dq_at (q := (108, .invokevirtual 130, 3)) dm_De_drawing_0 41 rfl
theorem dc_De_drawing_111 : decode cd_De_drawing 111 = .ok (.ireturn, 1) := dq_at (q := (111, .ireturn, 1)) dm_De_drawing_0 42 rfl
def dl_De_line_0 : List (Nat × Instr × Nat) := [(0, .iload_n 1, 1), (1, .iload_n 2, 1), (2, .invokestatic 94, 3), (5, .iload_n 3, 1), (6, .ifCond .lt 11, 3), (9, .iload_n 3, 1), (10, .aload_n 0, 1), (11, .getfield 9, 3), (14, .if_icmp .le 13, 3), (17, .new 56, 3), (20, .dup, 1), (21, .ldc 133, 2), (23, .invokespecial 60, 3), (26, .athrow, 1), (27, .aload_n 0, 1), (28, .iload_n 1, 1), (29, .iload_n 2, 1), (30, .invokevirtual 107, 3), (33, .bipush 100, 2), (35, .aload_n 0, 1), (36, .getfield 30, 3), (39, .getfield 135, 3), (42, .iload_n 3, 1), (43, .iaload, 1), (44, .imul, 1), (45, .aload_n 0, 1), (46, .getfield 30, 3), (49, .getfield 138, 3), (52, .iload_n 3, 1), (53, .iaload, 1), (54, .iadd, 1), (55, .ireturn, 1)]
theorem dm_De_line_0 : dl_De_line_0.all (fun q => decide (decode cd_De_line q.1 = .ok (q.2.1, q.2.2))) = true := by decide +kernel
theorem dc_De_line_0 : decode cd_De_line 0 = .ok (.iload_n 1, 1) := dq_at (q := (0, .iload_n 1, 1)) dm_De_line_0 0 rfl
theorem dc_De_line_1 : decode cd_De_line 1 = .ok (.iload_n 2, 1) := dq_at (q := (1, .iload_n 2, 1)) dm_De_line_0 1 rfl
theorem dc_De_line_2 : decode cd_De_line 2 = .ok (.invokestatic 94, 3) := dq_at (q := (2, .invokestatic 94, 3)) dm_De_line_0 2 rfl
theorem dc_De_line_5 : decode cd_De_line 5 = .ok (.iload_n 3, 1) := dq_at (q := (5, .iload_n 3, 1)) dm_De_line_0 3 rfl
theorem dc_De_line_6 : decode cd_De_line 6 = .ok (.ifCond .lt 11, 3) := dq_at (q := (6, .ifCond .lt 11, 3)) dm_De_line_0 4 rfl
theorem dc_De_line_9 : decode cd_De_line 9 = .ok (.iload_n 3, 1) := dq_at (q := (9, .iload_n 3, 1)) dm_De_line_0 5 rfl
theorem dc_De_line_10 : decode cd_De_line 10 = .ok (.aload_n 0, 1) := dq_at (q := (10, .aload_n 0, 1)) dm_De_line_0 6 rfl
theorem dc_De_line_11 : decode cd_De_line 11 = .ok (.getfield 9, 3) := dq_at (q := (11, .getfield 9, 3)) dm_De_line_0 7 rfl
theorem dc_De_line_14 : decode cd_De_line 14 = .ok (.if_icmp .le 13, 3) := dq_at (q := (14, .if_icmp .le 13, 3)) dm_De_line_0 8 rfl
theorem dc_De_line_17 : decode cd_De_line 17 = .ok (.new 56, 3) := dq_at (q := (17, .new 56, 3)) dm_De_line_0 9 rfl
theorem dc_De_line_20 : decode cd_De_line 20 = .ok (.dup, 1) := dq_at (q := (20, .dup, 1)) dm_De_line_0 10 rfl
theorem dc_De_line_21 : decode cd_De_line 21 = .ok (.ldc 133, 2) := dq_at (q := (21, .ldc 133, 2)) dm_De_line_0 11 rfl
theorem dc_De_line_23 : decode cd_De_line 23 = .ok (.invokespecial 60, 3) := dq_at (q := (23, .invokespecial 60, 3)) dm_De_line_0 12 rfl
theorem dc_De_line_26 : decode cd_De_line 26 = .ok (.athrow, 1) := dq_at (q := (26, .athrow, 1)) dm_De_line_0 13 rfl
theorem dc_De_line_27 : decode cd_De_line 27 = .ok (.aload_n 0, 1) := dq_at (q := (27, .aload_n 0, 1)) dm_De_line_0 14 rfl
theorem dc_De_line_28 : decode cd_De_line 28 = .ok (.iload_n 1, 1) := dq_at (q := (28, .iload_n 1, 1)) dm_De_line_0 15 rfl
theorem dc_De_line_29 : decode cd_De_line 29 = .ok (.iload_n 2, 1) := dq_at (q := (29, .iload_n 2, 1)) dm_De_line_0 16 rfl
theorem dc_De_line_30 : decode cd_De_line 30 = .ok (.invokevirtual 107, 3) := dq_at (q := (30, .invokevirtual 107, 3)) dm_De_line_0 17 rfl
theorem dc_De_line_33 : decode cd_De_line 33 = .ok (.bipush 100, 2) := dq_at (q := (33, .bipush 100, 2)) dm_De_line_0 18 rfl
theorem dc_De_line_35 : decode cd_De_line 35 = .ok (.aload_n 0, 1) := dq_at (q := (35, .aload_n 0, 1)) dm_De_line_0 19 rfl
theorem dc_De_line_36 : decode cd_De_line 36 = .ok (.getfield 30, 3) := dq_at (q := (36, .getfield 30, 3)) dm_De_line_0 20 rfl
theorem dc_De_line_39 : decode cd_De_line 39 = .ok (.getfield 135, 3) := dq_at (q := (39, .getfield 135, 3)) dm_De_line_0 21 rfl
theorem dc_De_line_42 : decode cd_De_line 42 = .ok (.iload_n 3, 1) := dq_at (q := (42, .iload_n 3, 1)) dm_De_line_0 22 rfl
theorem dc_De_line_43 : decode cd_De_line 43 = .ok (.iaload, 1) := dq_at (q := (43, .iaload, 1)) dm_De_line_0 23 rfl
theorem dc_De_line_44 : decode cd_De_line 44 = .ok (.imul, 1) := dq_at (q := (44, .imul, 1)) dm_De_line_0 24 rfl
theorem dc_De_line_45 : decode cd_De_line 45 = .ok (.aload_n 0, 1) := dq_at (q := (45, .aload_n 0, 1)) dm_De_line_0 25 rfl
theorem dc_De_line_46 : decode cd_De_line 46 = .ok (.getfield 30, 3) := dq_at (q := (46, .getfield 30, 3)) dm_De_line_0 26 rfl
theorem dc_De_line_49 : decode cd_De_line 49 = .ok (.getfield 138, 3) := dq_at (q := (49, .getfield 138, 3)) dm_De_line_0 27 rfl
theorem dc_De_line_52 : decode cd_De_line 52 = .ok (.iload_n 3, 1) := dq_at (q := (52, .iload_n 3, 1)) dm_De_line_0 28 rfl
theorem dc_De_line_53 : decode cd_De_line 53 = .ok (.iaload, 1) := dq_at (q := (53, .iaload, 1)) dm_De_line_0 29 rfl
theorem dc_De_line_54 : decode cd_De_line 54 = .ok (.iadd, 1) := dq_at (q := (54, .iadd, 1)) dm_De_line_0 30 rfl
theorem dc_De_line_55 : decode cd_De_line 55 = .ok (.ireturn, 1) := dq_at (q := (55, .ireturn, 1)) dm_De_line_0 31 rfl
def dl_De_interval_0 : List (Nat × Instr × Nat) := [(0, .iload_n 1, 1), (1, .iload_n 2, 1), (2, .invokestatic 94, 3), (5, .aload_n 0, 1), (6, .aload_n 0, 1), (7, .getfield 15, 3), (10, .iload_n 1, 1), (11, .aaload, 1), (12, .getfield 91, 3), (15, .aload_n 0, 1), (16, .getfield 15, 3), (19, .iload_n 2, 1), (20, .aaload, 1), (21, .getfield 91, 3), (24, .invokevirtual 141, 3), (27, .iconst 0, 1), (28, .istore 4, 2), (30, .iconst 0, 1), (31, .istore 5, 2), (33, .iload 5, 2), (35, .aload_n 0, 1), (36, .getfield 9, 3), (39, .if_icmp .ge 107, 3), (42, .aload_n 0, 1), (43, .getfield 50, 3), (46, .iload 5, 2), (48, .iaload, 1), (49, .invokestatic 145, 3), (52, .istore 6, 2), (54, .iload 6, 2), (56, .istore 7, 2), (58, .iload 5, 2), (60, .iconst 1, 1), (61, .iadd, 1), (62, .istore 8, 2), (64, .iload 8, 2), (66, .aload_n 0, 1), (67, .getfield 9, 3), (70, .if_icmp .ge 70, 3), (73, .aload_n 0, 1), (74, .getfield 50, 3), (77, .iload 8, 2), (79, .iaload, 1), (80, .invokestatic 145, 3), (83, .istore 9, 2), (85, .iload 6, 2), (87, .iload 9, 2), (89, .invokestatic 151, 3), (92, .istore 6, 2), (94, .iload 7, 2), (96, .iload 9, 2), (98, .invokestatic 155, 3), (101, .istore 7, 2), (103, .iload 7, 2), (105, .iload 6, 2), (107, .isub, 1), (108, .iload 8, 2), (110, .iload 5, 2), (112, .isub, 1), (113, .if_icmp .ne 21, 3)]
theorem dm_De_interval_0 : dl_De_interval_0.all (fun q => decide (decode cd_De_interval q.1 = .ok (q.2.1, q.2.2))) = true := by decide +kernel
theorem dc_De_interval_0 : decode cd_De_interval 0 = .ok (.iload_n 1, 1) := dq_at (q := (0, .iload_n 1, 1)) dm_De_interval_0 0 rfl
theorem dc_De_interval_1 : decode cd_De_interval 1 = .ok (.iload_n 2, 1) := dq_at (q := (1, .iload_n 2, 1)) dm_De_interval_0 1 rfl
theorem dc_De_interval_2 : decode cd_De_interval 2 = .ok (.invokestatic 94, 3) := dq_at (q := (2, .invokestatic 94, 3)) dm_De_interval_0 2 rfl
theorem dc_De_interval_5 : decode cd_De_interval 5 = .ok (.aload_n 0, 1) := dq_at (q := (5, .aload_n 0, 1)) dm_De_interval_0 3 rfl
theorem dc_De_interval_6 : decode cd_De_interval 6 = .ok (.aload_n 0, 1) := dq_at (q := (6, .aload_n 0, 1)) dm_De_interval_0 4 rfl
theorem dc_De_interval_7 : decode cd_De_interval 7 = .ok (.getfield 15, 3) := dq_at (q := (7, .getfield 15, 3)) dm_De_interval_0 5 rfl
theorem dc_De_interval_10 : decode cd_De_interval 10 = .ok (.iload_n 1, 1) := dq_at (q := (10, .iload_n 1, 1)) dm_De_interval_0 6 rfl
theorem dc_De_interval_11 : decode cd_De_interval 11 = .ok (.aaload, 1) := dq_at (q := (11, .aaload, 1)) dm_De_interval_0 7 rfl
theorem dc_De_interval_12 : decode cd_De_interval 12 = .ok (.getfield 91, 3) := dq_at (q := (12, .getfield 91, 3)) dm_De_interval_0 8 rfl
theorem dc_De_interval_15 : decode cd_De_interval 15 = .ok (.aload_n 0, 1) := dq_at (q := (15, .aload_n 0, 1)) dm_De_interval_0 9 rfl
theorem dc_De_interval_16 : decode cd_De_interval 16 = .ok (.getfield 15, 3) := dq_at (q := (16, .getfield 15, 3)) dm_De_interval_0 10 rfl
theorem dc_De_interval_19 : decode cd_De_interval 19 = .ok (.iload_n 2, 1) := dq_at (q := (19, .iload_n 2, 1)) dm_De_interval_0 11 rfl
theorem dc_De_interval_20 : decode cd_De_interval 20 = .ok (.aaload, 1) := dq_at (q := (20, .aaload, 1)) dm_De_interval_0 12 rfl
theorem dc_De_interval_21 : decode cd_De_interval 21 = .ok (.getfield 91, 3) := dq_at (q := (21, .getfield 91, 3)) dm_De_interval_0 13 rfl
theorem dc_De_interval_24 : decode cd_De_interval 24 = .ok (.invokevirtual 141, 3) := dq_at (q := (24, .invokevirtual 141, 3)) dm_De_interval_0 14 rfl
theorem dc_De_interval_27 : decode cd_De_interval 27 = .ok (.iconst 0, 1) := dq_at (q := (27, .iconst 0, 1)) dm_De_interval_0 15 rfl
theorem dc_De_interval_28 : decode cd_De_interval 28 = .ok (.istore 4, 2) := dq_at (q := (28, .istore 4, 2)) dm_De_interval_0 16 rfl
theorem dc_De_interval_30 : decode cd_De_interval 30 = .ok (.iconst 0, 1) := dq_at (q := (30, .iconst 0, 1)) dm_De_interval_0 17 rfl
theorem dc_De_interval_31 : decode cd_De_interval 31 = .ok (.istore 5, 2) := dq_at (q := (31, .istore 5, 2)) dm_De_interval_0 18 rfl
theorem dc_De_interval_33 : decode cd_De_interval 33 = .ok (.iload 5, 2) := dq_at (q := (33, .iload 5, 2)) dm_De_interval_0 19 rfl
theorem dc_De_interval_35 : decode cd_De_interval 35 = .ok (.aload_n 0, 1) := dq_at (q := (35, .aload_n 0, 1)) dm_De_interval_0 20 rfl
theorem dc_De_interval_36 : decode cd_De_interval 36 = .ok (.getfield 9, 3) := dq_at (q := (36, .getfield 9, 3)) dm_De_interval_0 21 rfl
theorem dc_De_interval_39 : decode cd_De_interval 39 = .ok (.if_icmp .ge 107, 3) := dq_at (q := (39, .if_icmp .ge 107, 3)) dm_De_interval_0 22 rfl
theorem dc_De_interval_42 : decode cd_De_interval 42 = .ok (.aload_n 0, 1) := dq_at (q := (42, .aload_n 0, 1)) dm_De_interval_0 23 rfl
theorem dc_De_interval_43 : decode cd_De_interval 43 = .ok (.getfield 50, 3) := dq_at (q := (43, .getfield 50, 3)) dm_De_interval_0 24 rfl
theorem dc_De_interval_46 : decode cd_De_interval 46 = .ok (.iload 5, 2) := dq_at (q := (46, .iload 5, 2)) dm_De_interval_0 25 rfl
theorem dc_De_interval_48 : decode cd_De_interval 48 = .ok (.iaload, 1) := dq_at (q := (48, .iaload, 1)) dm_De_interval_0 26 rfl
theorem dc_De_interval_49 : decode cd_De_interval 49 = .ok (.invokestatic 145, 3) := dq_at (q := (49, .invokestatic 145, 3)) dm_De_interval_0 27 rfl
theorem dc_De_interval_52 : decode cd_De_interval 52 = .ok (.istore 6, 2) := dq_at (q := (52, .istore 6, 2)) dm_De_interval_0 28 rfl
theorem dc_De_interval_54 : decode cd_De_interval 54 = .ok (.iload 6, 2) := dq_at (q := (54, .iload 6, 2)) dm_De_interval_0 29 rfl
theorem dc_De_interval_56 : decode cd_De_interval 56 = .ok (.istore 7, 2) := dq_at (q := (56, .istore 7, 2)) dm_De_interval_0 30 rfl
theorem dc_De_interval_58 : decode cd_De_interval 58 = .ok (.iload 5, 2) := dq_at (q := (58, .iload 5, 2)) dm_De_interval_0 31 rfl
theorem dc_De_interval_60 : decode cd_De_interval 60 = .ok (.iconst 1, 1) := dq_at (q := (60, .iconst 1, 1)) dm_De_interval_0 32 rfl
theorem dc_De_interval_61 : decode cd_De_interval 61 = .ok (.iadd, 1) := dq_at (q := (61, .iadd, 1)) dm_De_interval_0 33 rfl
theorem dc_De_interval_62 : decode cd_De_interval 62 = .ok (.istore 8, 2) := dq_at (q := (62, .istore 8, 2)) dm_De_interval_0 34 rfl
theorem dc_De_interval_64 : decode cd_De_interval 64 = .ok (.iload 8, 2) := dq_at (q := (64, .iload 8, 2)) dm_De_interval_0 35 rfl
theorem dc_De_interval_66 : decode cd_De_interval 66 = .ok (.aload_n 0, 1) := dq_at (q := (66, .aload_n 0, 1)) dm_De_interval_0 36 rfl
theorem dc_De_interval_67 : decode cd_De_interval 67 = .ok (.getfield 9, 3) := dq_at (q := (67, .getfield 9, 3)) dm_De_interval_0 37 rfl
theorem dc_De_interval_70 : decode cd_De_interval 70 = .ok (.if_icmp .ge 70, 3) := dq_at (q := (70, .if_icmp .ge 70, 3)) dm_De_interval_0 38 rfl
theorem dc_De_interval_73 : decode cd_De_interval 73 = .ok (.aload_n 0, 1) := dq_at (q := (73, .aload_n 0, 1)) dm_De_interval_0 39 rfl
theorem dc_De_interval_74 : decode cd_De_interval 74 = .ok (.getfield 50, 3) := dq_at (q := (74, .getfield 50, 3)) dm_De_interval_0 40 rfl
theorem dc_De_interval_77 : decode cd_De_interval 77 = .ok (.iload 8, 2) := dq_at (q := (77, .iload 8, 2)) dm_De_interval_0 41 rfl
theorem dc_De_interval_79 : decode cd_De_interval 79 = .ok (.iaload, 1) := dq_at (q := (79, .iaload, 1)) dm_De_interval_0 42 rfl
theorem dc_De_interval_80 : decode cd_De_interval 80 = .ok (.invokestatic 145, 3) := dq_at (q := (80, .invokestatic 145, 3)) dm_De_interval_0 43 rfl
theorem dc_De_interval_83 : decode cd_De_interval 83 = .ok (.istore 9, 2) := dq_at (q := (83, .istore 9, 2)) dm_De_interval_0 44 rfl
theorem dc_De_interval_85 : decode cd_De_interval 85 = .ok (.iload 6, 2) := dq_at (q := (85, .iload 6, 2)) dm_De_interval_0 45 rfl
theorem dc_De_interval_87 : decode cd_De_interval 87 = .ok (.iload 9, 2) := dq_at (q := (87, .iload 9, 2)) dm_De_interval_0 46 rfl
theorem dc_De_interval_89 : decode cd_De_interval 89 = .ok (.invokestatic 151, 3) := dq_at (q := (89, .invokestatic 151, 3)) dm_De_interval_0 47 rfl
theorem dc_De_interval_92 : decode cd_De_interval 92 = .ok (.istore 6, 2) := dq_at (q := (92, .istore 6, 2)) dm_De_interval_0 48 rfl
theorem dc_De_interval_94 : decode cd_De_interval 94 = .ok (.iload 7, 2) := dq_at (q := (94, .iload 7, 2)) dm_De_interval_0 49 rfl
theorem dc_De_interval_96 : decode cd_De_interval 96 = .ok (.iload 9, 2) := dq_at (q := (96, .iload 9, 2)) dm_De_interval_0 50 rfl
theorem dc_De_interval_98 : decode cd_De_interval 98 = .ok (.invokestatic 155, 3) := dq_at (q := (98, .invokestatic 155, 3)) dm_De_interval_0 51 rfl
theorem dc_De_interval_101 : decode cd_De_interval 101 = .ok (.istore 7, 2) := dq_at (q := (101, .istore 7, 2)) dm_De_interval_0 52 rfl
theorem dc_De_interval_103 : decode cd_De_interval 103 = .ok (.iload 7, 2) := dq_at (q := (103, .iload 7, 2)) dm_De_interval_0 53 rfl
theorem dc_De_interval_105 : decode cd_De_interval 105 = .ok (.iload 6, 2) := dq_at (q := (105, .iload 6, 2)) dm_De_interval_0 54 rfl
theorem dc_De_interval_107 : decode cd_De_interval 107 = .ok (.isub, 1) := dq_at (q := (107, .isub, 1)) dm_De_interval_0 55 rfl
theorem dc_De_interval_108 : decode cd_De_interval 108 = .ok (.iload 8, 2) := dq_at (q := (108, .iload 8, 2)) dm_De_interval_0 56 rfl
theorem dc_De_interval_110 : decode cd_De_interval 110 = .ok (.iload 5, 2) := dq_at (q := (110, .iload 5, 2)) dm_De_interval_0 57 rfl
theorem dc_De_interval_112 : decode cd_De_interval 112 = .ok (.isub, 1) := dq_at (q := (112, .isub, 1)) dm_De_interval_0 58 rfl
theorem dc_De_interval_113 : decode cd_De_interval 113 = .ok (.if_icmp .ne 21, 3) := dq_at (q := (113, .if_icmp .ne 21, 3)) dm_De_interval_0 59 rfl
def dl_De_interval_60 : List (Nat × Instr × Nat) := [(116, .iload 4, 2), (118, .iload_n 3, 1), (119, .if_icmp .ne 12, 3), (122, .bipush 10, 2), (124, .iload 5, 2), (126, .imul, 1), (127, .iload 8, 2), (129, .iadd, 1), (130, .ireturn, 1), (131, .iinc 4 1, 3), (134, .iinc 8 1, 3), (137, .goto (-73), 3), (140, .iinc 5 1, 3), (143, .goto (-110), 3), (146, .iconst (-1), 1), (147, .ireturn, 1)]
theorem dm_De_interval_60 : dl_De_interval_60.all (fun q => decide (decode cd_De_interval q.1 = .ok (q.2.1, q.2.2))) = true := by decide +kernel
theorem dc_De_interval_116 : decode cd_De_interval 116 = .ok (.iload 4, 2) := dq_at (q := (116, .iload 4, 2)) dm_De_interval_60 0 rfl
theorem dc_De_interval_118 : decode cd_De_interval 118 = .ok (.iload_n 3, 1) := dq_at (q := (118, .iload_n 3, 1)) dm_De_interval_60 1 rfl
theorem dc_De_interval_119 : decode cd_De_interval 119 = .ok (.if_icmp .ne 12, 3) := dq_at (q := (119, .if_icmp .ne 12, 3)) dm_De_interval_60 2 rfl
theorem dc_De_interval_122 : decode cd_De_interval 122 = .ok (.bipush 10, 2) := dq_at (q := (122, .bipush 10, 2)) dm_De_interval_60 3 rfl
theorem dc_De_interval_124 : decode cd_De_interval 124 = .ok (.iload 5, 2) := dq_at (q := (124, .iload 5, 2)) dm_De_interval_60 4 rfl
theorem dc_De_interval_126 : decode cd_De_interval 126 = .ok (.imul, 1) := dq_at (q := (126, .imul, 1)) dm_De_interval_60 5 rfl
theorem dc_De_interval_127 : decode cd_De_interval 127 = .ok (.iload 8, 2) := dq_at (q := (127, .iload 8, 2)) dm_De_interval_60 6 rfl
theorem dc_De_interval_129 : decode cd_De_interval 129 = .ok (.iadd, 1) := dq_at (q := (129, .iadd, 1)) dm_De_interval_60 7 rfl
theorem dc_De_interval_130 : decode cd_De_interval 130 = .ok (.ireturn, 1) := dq_at (q := (130, .ireturn, 1)) dm_De_interval_60 8 rfl
theorem dc_De_interval_131 : decode cd_De_interval 131 = .ok (.iinc 4 1, 3) := dq_at (q := (131, .iinc 4 1, 3)) dm_De_interval_60 9 rfl
theorem dc_De_interval_134 : decode cd_De_interval 134 = .ok (.iinc 8 1, 3) := dq_at (q := (134, .iinc 8 1, 3)) dm_De_interval_60 10 rfl
theorem dc_De_interval_137 : decode cd_De_interval 137 = .ok (.goto (-73), 3) := dq_at (q := (137, .goto (-73), 3)) dm_De_interval_60 11 rfl
theorem dc_De_interval_140 : decode cd_De_interval 140 = .ok (.iinc 5 1, 3) := dq_at (q := (140, .iinc 5 1, 3)) dm_De_interval_60 12 rfl
theorem dc_De_interval_143 : decode cd_De_interval 143 = .ok (.goto (-110), 3) := dq_at (q := (143, .goto (-110), 3)) dm_De_interval_60 13 rfl
theorem dc_De_interval_146 : decode cd_De_interval 146 = .ok (.iconst (-1), 1) := dq_at (q := (146, .iconst (-1), 1)) dm_De_interval_60 14 rfl
theorem dc_De_interval_147 : decode cd_De_interval 147 = .ok (.ireturn, 1) := dq_at (q := (147, .ireturn, 1)) dm_De_interval_60 15 rfl
def dl_De_scenario_0 : List (Nat × Instr × Nat) := [(0, .iload_n 1, 1), (1, .iload_n 2, 1), (2, .invokestatic 94, 3), (5, .aload_n 0, 1), (6, .iload_n 1, 1), (7, .iload_n 2, 1), (8, .invokevirtual 107, 3), (11, .aload_n 0, 1), (12, .getfield 30, 3), (15, .invokevirtual 110, 3), (18, .istore_n 3, 1), (19, .iconst 0, 1), (20, .istore 4, 2), (22, .iload 4, 2), (24, .iload_n 3, 1), (25, .if_icmp .ge 33, 3), (28, .iload 4, 2), (30, .bipush 7, 2), (32, .if_icmp .ge 26, 3), (35, .aload_n 0, 1), (36, .getfield 40, 3), (39, .iload 4, 2), (41, .aload_n 0, 1), (42, .iload_n 3, 1), (43, .iload 4, 2), (45, .isub, 1), (46, .iconst 1, 1), (47, .isub, 1), (48, .invokevirtual 158, 3), (51, .iastore, 1), (52, .iinc 4 1, 3), (55, .goto (-33), 3), (58, .aload_n 0, 1), (59, .iload_n 3, 1), (60, .putfield 44, 3), (63, .iload_n 3, 1), (64, .ireturn, 1)]
theorem dm_De_scenario_0 : dl_De_scenario_0.all (fun q => decide (decode cd_De_scenario q.1 = .ok (q.2.1, q.2.2))) = true := by decide +kernel
theorem dc_De_scenario_0 : decode cd_De_scenario 0 = .ok (.iload_n 1, 1) := dq_at (q := (0, .iload_n 1, 1)) dm_De_scenario_0 0 rfl
theorem dc_De_scenario_1 : decode cd_De_scenario 1 = .ok (.iload_n 2, 1) := dq_at (q := (1, .iload_n 2, 1)) dm_De_scenario_0 1 rfl
theorem dc_De_scenario_2 : decode cd_De_scenario 2 = .ok (.invokestatic 94, 3) := dq_at (q := (2, .invokestatic 94, 3)) dm_De_scenario_0 2 rfl
theorem dc_De_scenario_5 : decode cd_De_scenario 5 = .ok (.aload_n 0, 1) := dq_at (q := (5, .aload_n 0, 1)) dm_De_scenario_0 3 rfl
theorem dc_De_scenario_6 : decode cd_De_scenario 6 = .ok (.iload_n 1, 1) := dq_at (q := (6, .iload_n 1, 1)) dm_De_scenario_0 4 rfl
theorem dc_De_scenario_7 : decode cd_De_scenario 7 = .ok (.iload_n 2, 1) := dq_at (q := (7, .iload_n 2, 1)) dm_De_scenario_0 5 rfl
theorem dc_De_scenario_8 : decode cd_De_scenario 8 = .ok (.invokevirtual 107, 3) := dq_at (q := (8, .invokevirtual 107, 3)) dm_De_scenario_0 6 rfl
theorem dc_De_scenario_11 : decode cd_De_scenario 11 = .ok (.aload_n 0, 1) := dq_at (q := (11, .aload_n 0, 1)) dm_De_scenario_0 7 rfl
theorem dc_De_scenario_12 : decode cd_De_scenario 12 = .ok (.getfield 30, 3) := dq_at (q := (12, .getfield 30, 3)) dm_De_scenario_0 8 rfl
theorem dc_De_scenario_15 : decode cd_De_scenario 15 = .ok (.invokevirtual 110, 3) := dq_at (q := (15, .invokevirtual 110, 3)) dm_De_scenario_0 9 rfl
theorem dc_De_scenario_18 : decode cd_De_scenario 18 = .ok (.istore_n 3, 1) := dq_at (q := (18, .istore_n 3, 1)) dm_De_scenario_0 10 rfl
theorem dc_De_scenario_19 : decode cd_De_scenario 19 = .ok (.iconst 0, 1) := dq_at (q := (19, .iconst 0, 1)) dm_De_scenario_0 11 rfl
theorem dc_De_scenario_20 : decode cd_De_scenario 20 = .ok (.istore 4, 2) := dq_at (q := (20, .istore 4, 2)) dm_De_scenario_0 12 rfl
theorem dc_De_scenario_22 : decode cd_De_scenario 22 = .ok (.iload 4, 2) := dq_at (q := (22, .iload 4, 2)) dm_De_scenario_0 13 rfl
theorem dc_De_scenario_24 : decode cd_De_scenario 24 = .ok (.iload_n 3, 1) := dq_at (q := (24, .iload_n 3, 1)) dm_De_scenario_0 14 rfl
theorem dc_De_scenario_25 : decode cd_De_scenario 25 = .ok (.if_icmp .ge 33, 3) := dq_at (q := (25, .if_icmp .ge 33, 3)) dm_De_scenario_0 15 rfl
theorem dc_De_scenario_28 : decode cd_De_scenario 28 = .ok (.iload 4, 2) := dq_at (q := (28, .iload 4, 2)) dm_De_scenario_0 16 rfl
theorem dc_De_scenario_30 : decode cd_De_scenario 30 = .ok (.bipush 7, 2) := dq_at (q := (30, .bipush 7, 2)) dm_De_scenario_0 17 rfl
theorem dc_De_scenario_32 : decode cd_De_scenario 32 = .ok (.if_icmp .ge 26, 3) := dq_at (q := (32, .if_icmp .ge 26, 3)) dm_De_scenario_0 18 rfl
theorem dc_De_scenario_35 : decode cd_De_scenario 35 = .ok (.aload_n 0, 1) := dq_at (q := (35, .aload_n 0, 1)) dm_De_scenario_0 19 rfl
theorem dc_De_scenario_36 : decode cd_De_scenario 36 = .ok (.getfield 40, 3) := dq_at (q := (36, .getfield 40, 3)) dm_De_scenario_0 20 rfl
theorem dc_De_scenario_39 : decode cd_De_scenario 39 = .ok (.iload 4, 2) := dq_at (q := (39, .iload 4, 2)) dm_De_scenario_0 21 rfl
theorem dc_De_scenario_41 : decode cd_De_scenario 41 = .ok (.aload_n 0, 1) := dq_at (q := (41, .aload_n 0, 1)) dm_De_scenario_0 22 rfl
theorem dc_De_scenario_42 : decode cd_De_scenario 42 = .ok (.iload_n 3, 1) := dq_at (q := (42, .iload_n 3, 1)) dm_De_scenario_0 23 rfl
theorem dc_De_scenario_43 : decode cd_De_scenario 43 = .ok (.iload 4, 2) := dq_at (q := (43, .iload 4, 2)) dm_De_scenario_0 24 rfl
theorem dc_De_scenario_45 : decode cd_De_scenario 45 = .ok (.isub, 1) := dq_at (q := (45, .isub, 1)) dm_De_scenario_0 25 rfl
theorem dc_De_scenario_46 : decode cd_De_scenario 46 = .ok (.iconst 1, 1) := dq_at (q := (46, .iconst 1, 1)) dm_De_scenario_0 26 rfl
theorem dc_De_scenario_47 : decode cd_De_scenario 47 = .ok (.isub, 1) := dq_at (q := (47, .isub, 1)) dm_De_scenario_0 27 rfl
theorem dc_De_scenario_48 : decode cd_De_scenario 48 = .ok (.invokevirtual 158, 3) := dq_at (q := (48, .invokevirtual 158, 3)) dm_De_scenario_0 28 rfl
theorem dc_De_scenario_51 : decode cd_De_scenario 51 = .ok (.iastore, 1) := dq_at (q := (51, .iastore, 1)) dm_De_scenario_0 29 rfl
theorem dc_De_scenario_52 : decode cd_De_scenario 52 = .ok (.iinc 4 1, 3) := dq_at (q := (52, .iinc 4 1, 3)) dm_De_scenario_0 30 rfl
theorem dc_De_scenario_55 : decode cd_De_scenario 55 = .ok (.goto (-33), 3) := dq_at (q := (55, .goto (-33), 3)) dm_De_scenario_0 31 rfl
theorem dc_De_scenario_58 : decode cd_De_scenario 58 = .ok (.aload_n 0, 1) := dq_at (q := (58, .aload_n 0, 1)) dm_De_scenario_0 32 rfl
theorem dc_De_scenario_59 : decode cd_De_scenario 59 = .ok (.iload_n 3, 1) := dq_at (q := (59, .iload_n 3, 1)) dm_De_scenario_0 33 rfl
theorem dc_De_scenario_60 : decode cd_De_scenario 60 = .ok (.putfield 44, 3) := dq_at (q := (60, .putfield 44, 3)) dm_De_scenario_0 34 rfl
theorem dc_De_scenario_63 : decode cd_De_scenario 63 = .ok (.iload_n 3, 1) := dq_at (q := (63, .iload_n 3, 1)) dm_De_scenario_0 35 rfl
theorem dc_De_scenario_64 : decode cd_De_scenario 64 = .ok (.ireturn, 1) := dq_at (q := (64, .ireturn, 1)) dm_De_scenario_0 36 rfl
def dl_De_step_0 : List (Nat × Instr × Nat) := [(0, .aload_n 0, 1), (1, .getfield 44, 3), (4, .iconst (-1), 1), (5, .if_icmp .ne 13, 3), (8, .new 161, 3), (11, .dup, 1), (12, .ldc 163, 2), (14, .invokespecial 165, 3), (17, .athrow, 1), (18, .iload_n 1, 1), (19, .ifCond .lt 11, 3), (22, .iload_n 1, 1), (23, .aload_n 0, 1), (24, .getfield 44, 3), (27, .if_icmp .lt 13, 3), (30, .new 56, 3), (33, .dup, 1), (34, .ldc 166, 2), (36, .invokespecial 60, 3), (39, .athrow, 1), (40, .aload_n 0, 1), (41, .getfield 40, 3), (44, .iload_n 1, 1), (45, .iaload, 1), (46, .ireturn, 1)]
theorem dm_De_step_0 : dl_De_step_0.all (fun q => decide (decode cd_De_step q.1 = .ok (q.2.1, q.2.2))) = true := by decide +kernel
theorem dc_De_step_0 : decode cd_De_step 0 = .ok (.aload_n 0, 1) := dq_at (q := (0, .aload_n 0, 1)) dm_De_step_0 0 rfl
theorem dc_De_step_1 : decode cd_De_step 1 = .ok (.getfield 44, 3) := dq_at (q := (1, .getfield 44, 3)) dm_De_step_0 1 rfl
theorem dc_De_step_4 : decode cd_De_step 4 = .ok (.iconst (-1), 1) := dq_at (q := (4, .iconst (-1), 1)) dm_De_step_0 2 rfl
theorem dc_De_step_5 : decode cd_De_step 5 = .ok (.if_icmp .ne 13, 3) := dq_at (q := (5, .if_icmp .ne 13, 3)) dm_De_step_0 3 rfl
theorem dc_De_step_8 : decode cd_De_step 8 = .ok (.new 161, 3) := dq_at (q := (8, .new 161, 3)) dm_De_step_0 4 rfl
theorem dc_De_step_11 : decode cd_De_step 11 = .ok (.dup, 1) := dq_at (q := (11, .dup, 1)) dm_De_step_0 5 rfl
theorem dc_De_step_12 : decode cd_De_step 12 = .ok (.ldc 163, 2) := dq_at (q := (12, .ldc 163, 2)) dm_De_step_0 6 rfl
theorem dc_De_step_14 : decode cd_De_step 14 = .ok (.invokespecial 165, 3) := dq_at (q := (14, .invokespecial 165, 3)) dm_De_step_0 7 rfl
theorem dc_De_step_17 : decode cd_De_step 17 = .ok (.athrow, 1) := dq_at (q := (17, .athrow, 1)) dm_De_step_0 8 rfl
theorem dc_De_step_18 : decode cd_De_step 18 = .ok (.iload_n 1, 1) := dq_at (q := (18, .iload_n 1, 1)) dm_De_step_0 9 rfl
theorem dc_De_step_19 : decode cd_De_step 19 = .ok (.ifCond .lt 11, 3) := dq_at (q := (19, .ifCond .lt 11, 3)) dm_De_step_0 10 rfl
theorem dc_De_step_22 : decode cd_De_step 22 = .ok (.iload_n 1, 1) := dq_at (q := (22, .iload_n 1, 1)) dm_De_step_0 11 rfl
theorem dc_De_step_23 : decode cd_De_step 23 = .ok (.aload_n 0, 1) := dq_at (q := (23, .aload_n 0, 1)) dm_De_step_0 12 rfl
theorem dc_De_step_24 : decode cd_De_step 24 = .ok (.getfield 44, 3) := dq_at (q := (24, .getfield 44, 3)) dm_De_step_0 13 rfl
theorem dc_De_step_27 : decode cd_De_step 27 = .ok (.if_icmp .lt 13, 3) := dq_at (q := (27, .if_icmp .lt 13, 3)) dm_De_step_0 14 rfl
theorem dc_De_step_30 : decode cd_De_step 30 = .ok (.new 56, 3) := dq_at (q := (30, .new 56, 3)) dm_De_step_0 15 rfl
theorem dc_De_step_33 : decode cd_De_step 33 = .ok (.dup, 1) := dq_at (q := (33, .dup, 1)) dm_De_step_0 16 rfl
theorem dc_De_step_34 : decode cd_De_step 34 = .ok (.ldc 166, 2) := dq_at (q := (34, .ldc 166, 2)) dm_De_step_0 17 rfl
theorem dc_De_step_36 : decode cd_De_step 36 = .ok (.invokespecial 60, 3) := dq_at (q := (36, .invokespecial 60, 3)) dm_De_step_0 18 rfl
theorem dc_De_step_39 : decode cd_De_step 39 = .ok (.athrow, 1) := dq_at (q := (39, .athrow, 1)) dm_De_step_0 19 rfl
theorem dc_De_step_40 : decode cd_De_step 40 = .ok (.aload_n 0, 1) := dq_at (q := (40, .aload_n 0, 1)) dm_De_step_0 20 rfl
theorem dc_De_step_41 : decode cd_De_step 41 = .ok (.getfield 40, 3) := dq_at (q := (41, .getfield 40, 3)) dm_De_step_0 21 rfl
theorem dc_De_step_44 : decode cd_De_step 44 = .ok (.iload_n 1, 1) := dq_at (q := (44, .iload_n 1, 1)) dm_De_step_0 22 rfl
theorem dc_De_step_45 : decode cd_De_step 45 = .ok (.iaload, 1) := dq_at (q := (45, .iaload, 1)) dm_De_step_0 23 rfl
theorem dc_De_step_46 : decode cd_De_step 46 = .ok (.ireturn, 1) := dq_at (q := (46, .ireturn, 1)) dm_De_step_0 24 rfl
def dl_De_ways_0 : List (Nat × Instr × Nat) := [(0, .iload_n 1, 1), (1, .iload_n 2, 1), (2, .invokestatic 94, 3), (5, .aload_n 0, 1), (6, .invokevirtual 168, 3), (9, .astore_n 3, 1), (10, .aload_n 0, 1), (11, .aload_n 0, 1), (12, .getfield 15, 3), (15, .iload_n 1, 1), (16, .aaload, 1), (17, .getfield 91, 3), (20, .aload_n 0, 1), (21, .getfield 15, 3), (24, .iload_n 2, 1), (25, .aaload, 1), (26, .getfield 91, 3), (29, .invokevirtual 141, 3), (32, .aload_n 3, 1), (33, .aload_n 0, 1), (34, .getfield 50, 3), (37, .invokevirtual 172, 3), (40, .lreturn, 1)]
theorem dm_De_ways_0 : dl_De_ways_0.all (fun q => decide (decode cd_De_ways q.1 = .ok (q.2.1, q.2.2))) = true := by decide +kernel
theorem dc_De_ways_0 : decode cd_De_ways 0 = .ok (.iload_n 1, 1) := dq_at (q := (0, .iload_n 1, 1)) dm_De_ways_0 0 rfl
theorem dc_De_ways_1 : decode cd_De_ways 1 = .ok (.iload_n 2, 1) := dq_at (q := (1, .iload_n 2, 1)) dm_De_ways_0 1 rfl
theorem dc_De_ways_2 : decode cd_De_ways 2 = .ok (.invokestatic 94, 3) := dq_at (q := (2, .invokestatic 94, 3)) dm_De_ways_0 2 rfl
theorem dc_De_ways_5 : decode cd_De_ways 5 = .ok (.aload_n 0, 1) := dq_at (q := (5, .aload_n 0, 1)) dm_De_ways_0 3 rfl
theorem dc_De_ways_6 : decode cd_De_ways 6 = .ok (.invokevirtual 168, 3) := dq_at (q := (6, .invokevirtual 168, 3)) dm_De_ways_0 4 rfl
theorem dc_De_ways_9 : decode cd_De_ways 9 = .ok (.astore_n 3, 1) := dq_at (q := (9, .astore_n 3, 1)) dm_De_ways_0 5 rfl
theorem dc_De_ways_10 : decode cd_De_ways 10 = .ok (.aload_n 0, 1) := dq_at (q := (10, .aload_n 0, 1)) dm_De_ways_0 6 rfl
theorem dc_De_ways_11 : decode cd_De_ways 11 = .ok (.aload_n 0, 1) := dq_at (q := (11, .aload_n 0, 1)) dm_De_ways_0 7 rfl
theorem dc_De_ways_12 : decode cd_De_ways 12 = .ok (.getfield 15, 3) := dq_at (q := (12, .getfield 15, 3)) dm_De_ways_0 8 rfl
theorem dc_De_ways_15 : decode cd_De_ways 15 = .ok (.iload_n 1, 1) := dq_at (q := (15, .iload_n 1, 1)) dm_De_ways_0 9 rfl
theorem dc_De_ways_16 : decode cd_De_ways 16 = .ok (.aaload, 1) := dq_at (q := (16, .aaload, 1)) dm_De_ways_0 10 rfl
theorem dc_De_ways_17 : decode cd_De_ways 17 = .ok (.getfield 91, 3) := dq_at (q := (17, .getfield 91, 3)) dm_De_ways_0 11 rfl
theorem dc_De_ways_20 : decode cd_De_ways 20 = .ok (.aload_n 0, 1) := dq_at (q := (20, .aload_n 0, 1)) dm_De_ways_0 12 rfl
theorem dc_De_ways_21 : decode cd_De_ways 21 = .ok (.getfield 15, 3) := dq_at (q := (21, .getfield 15, 3)) dm_De_ways_0 13 rfl
theorem dc_De_ways_24 : decode cd_De_ways 24 = .ok (.iload_n 2, 1) := dq_at (q := (24, .iload_n 2, 1)) dm_De_ways_0 14 rfl
theorem dc_De_ways_25 : decode cd_De_ways 25 = .ok (.aaload, 1) := dq_at (q := (25, .aaload, 1)) dm_De_ways_0 15 rfl
theorem dc_De_ways_26 : decode cd_De_ways 26 = .ok (.getfield 91, 3) := dq_at (q := (26, .getfield 91, 3)) dm_De_ways_0 16 rfl
theorem dc_De_ways_29 : decode cd_De_ways 29 = .ok (.invokevirtual 141, 3) := dq_at (q := (29, .invokevirtual 141, 3)) dm_De_ways_0 17 rfl
theorem dc_De_ways_32 : decode cd_De_ways 32 = .ok (.aload_n 3, 1) := dq_at (q := (32, .aload_n 3, 1)) dm_De_ways_0 18 rfl
theorem dc_De_ways_33 : decode cd_De_ways 33 = .ok (.aload_n 0, 1) := dq_at (q := (33, .aload_n 0, 1)) dm_De_ways_0 19 rfl
theorem dc_De_ways_34 : decode cd_De_ways 34 = .ok (.getfield 50, 3) := dq_at (q := (34, .getfield 50, 3)) dm_De_ways_0 20 rfl
theorem dc_De_ways_37 : decode cd_De_ways 37 = .ok (.invokevirtual 172, 3) := dq_at (q := (37, .invokevirtual 172, 3)) dm_De_ways_0 21 rfl
theorem dc_De_ways_40 : decode cd_De_ways 40 = .ok (.lreturn, 1) := dq_at (q := (40, .lreturn, 1)) dm_De_ways_0 22 rfl
def dl_De_circle_0 : List (Nat × Instr × Nat) := [(0, .iload_n 1, 1), (1, .invokestatic 74, 3), (4, .aload_n 0, 1), (5, .invokevirtual 168, 3), (8, .iload_n 2, 1), (9, .invokevirtual 176, 3), (12, .ireturn, 1)]
theorem dm_De_circle_0 : dl_De_circle_0.all (fun q => decide (decode cd_De_circle q.1 = .ok (q.2.1, q.2.2))) = true := by decide +kernel
theorem dc_De_circle_0 : decode cd_De_circle 0 = .ok (.iload_n 1, 1) := dq_at (q := (0, .iload_n 1, 1)) dm_De_circle_0 0 rfl
theorem dc_De_circle_1 : decode cd_De_circle 1 = .ok (.invokestatic 74, 3) := dq_at (q := (1, .invokestatic 74, 3)) dm_De_circle_0 1 rfl
theorem dc_De_circle_4 : decode cd_De_circle 4 = .ok (.aload_n 0, 1) := dq_at (q := (4, .aload_n 0, 1)) dm_De_circle_0 2 rfl
theorem dc_De_circle_5 : decode cd_De_circle 5 = .ok (.invokevirtual 168, 3) := dq_at (q := (5, .invokevirtual 168, 3)) dm_De_circle_0 3 rfl
theorem dc_De_circle_8 : decode cd_De_circle 8 = .ok (.iload_n 2, 1) := dq_at (q := (8, .iload_n 2, 1)) dm_De_circle_0 4 rfl
theorem dc_De_circle_9 : decode cd_De_circle 9 = .ok (.invokevirtual 176, 3) := dq_at (q := (9, .invokevirtual 176, 3)) dm_De_circle_0 5 rfl
theorem dc_De_circle_12 : decode cd_De_circle 12 = .ok (.ireturn, 1) := dq_at (q := (12, .ireturn, 1)) dm_De_circle_0 6 rfl
def dl_De_median_0 : List (Nat × Instr × Nat) := [(0, .iload_n 1, 1), (1, .iload_n 2, 1), (2, .invokestatic 94, 3), (5, .iload_n 3, 1), (6, .invokestatic 74, 3), (9, .aload_n 0, 1), (10, .invokevirtual 168, 3), (13, .astore 4, 2), (15, .iconst 0, 1), (16, .istore 5, 2), (18, .ldc 181, 2), (20, .istore 6, 2), (22, .iconst 0, 1), (23, .istore 7, 2), (25, .iload 7, 2), (27, .aload 4, 2), (29, .getfield 182, 3), (32, .if_icmp .ge 60, 3), (35, .aload 4, 2), (37, .iload 7, 2), (39, .aload_n 0, 1), (40, .getfield 53, 3), (43, .invokevirtual 185, 3), (46, .aload_n 0, 1), (47, .iload_n 1, 1), (48, .aload 4, 2), (50, .invokevirtual 189, 3), (53, .aload_n 0, 1), (54, .iload_n 2, 1), (55, .aload 4, 2), (57, .invokevirtual 189, 3), (60, .iadd, 1), (61, .aload_n 0, 1), (62, .iload_n 3, 1), (63, .aload 4, 2), (65, .invokevirtual 189, 3), (68, .iadd, 1), (69, .istore 8, 2), (71, .iload 8, 2), (73, .iload 6, 2), (75, .if_icmp .ge 11, 3), (78, .iload 8, 2), (80, .istore 6, 2), (82, .iload 7, 2), (84, .istore 5, 2), (86, .iinc 7 1, 3), (89, .goto (-64), 3), (92, .aload 4, 2), (94, .iload 5, 2), (96, .aload_n 0, 1), (97, .getfield 53, 3), (100, .invokevirtual 185, 3), (103, .aload_n 0, 1), (104, .getfield 15, 3), (107, .iconst 4, 1), (108, .aaload, 1), (109, .aload_n 0, 1), (110, .getfield 53, 3), (113, .invokevirtual 82, 3), (116, .iload 6, 2)]
theorem dm_De_median_0 : dl_De_median_0.all (fun q => decide (decode cd_De_median q.1 = .ok (q.2.1, q.2.2))) = true := by decide +kernel
theorem dc_De_median_0 : decode cd_De_median 0 = .ok (.iload_n 1, 1) := dq_at (q := (0, .iload_n 1, 1)) dm_De_median_0 0 rfl
theorem dc_De_median_1 : decode cd_De_median 1 = .ok (.iload_n 2, 1) := dq_at (q := (1, .iload_n 2, 1)) dm_De_median_0 1 rfl
theorem dc_De_median_2 : decode cd_De_median 2 = .ok (.invokestatic 94, 3) := dq_at (q := (2, .invokestatic 94, 3)) dm_De_median_0 2 rfl
theorem dc_De_median_5 : decode cd_De_median 5 = .ok (.iload_n 3, 1) := dq_at (q := (5, .iload_n 3, 1)) dm_De_median_0 3 rfl
theorem dc_De_median_6 : decode cd_De_median 6 = .ok (.invokestatic 74, 3) := dq_at (q := (6, .invokestatic 74, 3)) dm_De_median_0 4 rfl
theorem dc_De_median_9 : decode cd_De_median 9 = .ok (.aload_n 0, 1) := dq_at (q := (9, .aload_n 0, 1)) dm_De_median_0 5 rfl
theorem dc_De_median_10 : decode cd_De_median 10 = .ok (.invokevirtual 168, 3) := dq_at (q := (10, .invokevirtual 168, 3)) dm_De_median_0 6 rfl
theorem dc_De_median_13 : decode cd_De_median 13 = .ok (.astore 4, 2) := dq_at (q := (13, .astore 4, 2)) dm_De_median_0 7 rfl
theorem dc_De_median_15 : decode cd_De_median 15 = .ok (.iconst 0, 1) := dq_at (q := (15, .iconst 0, 1)) dm_De_median_0 8 rfl
theorem dc_De_median_16 : decode cd_De_median 16 = .ok (.istore 5, 2) := dq_at (q := (16, .istore 5, 2)) dm_De_median_0 9 rfl
theorem dc_De_median_18 : decode cd_De_median 18 = .ok (.ldc 181, 2) := dq_at (q := (18, .ldc 181, 2)) dm_De_median_0 10 rfl
theorem dc_De_median_20 : decode cd_De_median 20 = .ok (.istore 6, 2) := dq_at (q := (20, .istore 6, 2)) dm_De_median_0 11 rfl
theorem dc_De_median_22 : decode cd_De_median 22 = .ok (.iconst 0, 1) := dq_at (q := (22, .iconst 0, 1)) dm_De_median_0 12 rfl
theorem dc_De_median_23 : decode cd_De_median 23 = .ok (.istore 7, 2) := dq_at (q := (23, .istore 7, 2)) dm_De_median_0 13 rfl
theorem dc_De_median_25 : decode cd_De_median 25 = .ok (.iload 7, 2) := dq_at (q := (25, .iload 7, 2)) dm_De_median_0 14 rfl
theorem dc_De_median_27 : decode cd_De_median 27 = .ok (.aload 4, 2) := dq_at (q := (27, .aload 4, 2)) dm_De_median_0 15 rfl
theorem dc_De_median_29 : decode cd_De_median 29 = .ok (.getfield 182, 3) := dq_at (q := (29, .getfield 182, 3)) dm_De_median_0 16 rfl
theorem dc_De_median_32 : decode cd_De_median 32 = .ok (.if_icmp .ge 60, 3) := dq_at (q := (32, .if_icmp .ge 60, 3)) dm_De_median_0 17 rfl
theorem dc_De_median_35 : decode cd_De_median 35 = .ok (.aload 4, 2) := dq_at (q := (35, .aload 4, 2)) dm_De_median_0 18 rfl
theorem dc_De_median_37 : decode cd_De_median 37 = .ok (.iload 7, 2) := dq_at (q := (37, .iload 7, 2)) dm_De_median_0 19 rfl
theorem dc_De_median_39 : decode cd_De_median 39 = .ok (.aload_n 0, 1) := dq_at (q := (39, .aload_n 0, 1)) dm_De_median_0 20 rfl
theorem dc_De_median_40 : decode cd_De_median 40 = .ok (.getfield 53, 3) := dq_at (q := (40, .getfield 53, 3)) dm_De_median_0 21 rfl
theorem dc_De_median_43 : decode cd_De_median 43 = .ok (.invokevirtual 185, 3) := dq_at (q := (43, .invokevirtual 185, 3)) dm_De_median_0 22 rfl
theorem dc_De_median_46 : decode cd_De_median 46 = .ok (.aload_n 0, 1) := dq_at (q := (46, .aload_n 0, 1)) dm_De_median_0 23 rfl
theorem dc_De_median_47 : decode cd_De_median 47 = .ok (.iload_n 1, 1) := dq_at (q := (47, .iload_n 1, 1)) dm_De_median_0 24 rfl
theorem dc_De_median_48 : decode cd_De_median 48 = .ok (.aload 4, 2) := dq_at (q := (48, .aload 4, 2)) dm_De_median_0 25 rfl
theorem dc_De_median_50 : decode cd_De_median 50 = .ok (.invokevirtual 189, 3) := dq_at (q := (50, .invokevirtual 189, 3)) dm_De_median_0 26 rfl
theorem dc_De_median_53 : decode cd_De_median 53 = .ok (.aload_n 0, 1) := dq_at (q := (53, .aload_n 0, 1)) dm_De_median_0 27 rfl
theorem dc_De_median_54 : decode cd_De_median 54 = .ok (.iload_n 2, 1) := dq_at (q := (54, .iload_n 2, 1)) dm_De_median_0 28 rfl
theorem dc_De_median_55 : decode cd_De_median 55 = .ok (.aload 4, 2) := dq_at (q := (55, .aload 4, 2)) dm_De_median_0 29 rfl
theorem dc_De_median_57 : decode cd_De_median 57 = .ok (.invokevirtual 189, 3) := dq_at (q := (57, .invokevirtual 189, 3)) dm_De_median_0 30 rfl
theorem dc_De_median_60 : decode cd_De_median 60 = .ok (.iadd, 1) := dq_at (q := (60, .iadd, 1)) dm_De_median_0 31 rfl
theorem dc_De_median_61 : decode cd_De_median 61 = .ok (.aload_n 0, 1) := dq_at (q := (61, .aload_n 0, 1)) dm_De_median_0 32 rfl
theorem dc_De_median_62 : decode cd_De_median 62 = .ok (.iload_n 3, 1) := dq_at (q := (62, .iload_n 3, 1)) dm_De_median_0 33 rfl
theorem dc_De_median_63 : decode cd_De_median 63 = .ok (.aload 4, 2) := dq_at (q := (63, .aload 4, 2)) dm_De_median_0 34 rfl
theorem dc_De_median_65 : decode cd_De_median 65 = .ok (.invokevirtual 189, 3) := dq_at (q := (65, .invokevirtual 189, 3)) dm_De_median_0 35 rfl
theorem dc_De_median_68 : decode cd_De_median 68 = .ok (.iadd, 1) := dq_at (q := (68, .iadd, 1)) dm_De_median_0 36 rfl
theorem dc_De_median_69 : decode cd_De_median 69 = .ok (.istore 8, 2) := dq_at (q := (69, .istore 8, 2)) dm_De_median_0 37 rfl
theorem dc_De_median_71 : decode cd_De_median 71 = .ok (.iload 8, 2) := dq_at (q := (71, .iload 8, 2)) dm_De_median_0 38 rfl
theorem dc_De_median_73 : decode cd_De_median 73 = .ok (.iload 6, 2) := dq_at (q := (73, .iload 6, 2)) dm_De_median_0 39 rfl
theorem dc_De_median_75 : decode cd_De_median 75 = .ok (.if_icmp .ge 11, 3) := dq_at (q := (75, .if_icmp .ge 11, 3)) dm_De_median_0 40 rfl
theorem dc_De_median_78 : decode cd_De_median 78 = .ok (.iload 8, 2) := dq_at (q := (78, .iload 8, 2)) dm_De_median_0 41 rfl
theorem dc_De_median_80 : decode cd_De_median 80 = .ok (.istore 6, 2) := dq_at (q := (80, .istore 6, 2)) dm_De_median_0 42 rfl
theorem dc_De_median_82 : decode cd_De_median 82 = .ok (.iload 7, 2) := dq_at (q := (82, .iload 7, 2)) dm_De_median_0 43 rfl
theorem dc_De_median_84 : decode cd_De_median 84 = .ok (.istore 5, 2) := dq_at (q := (84, .istore 5, 2)) dm_De_median_0 44 rfl
theorem dc_De_median_86 : decode cd_De_median 86 = .ok (.iinc 7 1, 3) := dq_at (q := (86, .iinc 7 1, 3)) dm_De_median_0 45 rfl
theorem dc_De_median_89 : decode cd_De_median 89 = .ok (.goto (-64), 3) := dq_at (q := (89, .goto (-64), 3)) dm_De_median_0 46 rfl
theorem dc_De_median_92 : decode cd_De_median 92 = .ok (.aload 4, 2) := dq_at (q := (92, .aload 4, 2)) dm_De_median_0 47 rfl
theorem dc_De_median_94 : decode cd_De_median 94 = .ok (.iload 5, 2) := dq_at (q := (94, .iload 5, 2)) dm_De_median_0 48 rfl
theorem dc_De_median_96 : decode cd_De_median 96 = .ok (.aload_n 0, 1) := dq_at (q := (96, .aload_n 0, 1)) dm_De_median_0 49 rfl
theorem dc_De_median_97 : decode cd_De_median 97 = .ok (.getfield 53, 3) := dq_at (q := (97, .getfield 53, 3)) dm_De_median_0 50 rfl
theorem dc_De_median_100 : decode cd_De_median 100 = .ok (.invokevirtual 185, 3) := dq_at (q := (100, .invokevirtual 185, 3)) dm_De_median_0 51 rfl
theorem dc_De_median_103 : decode cd_De_median 103 = .ok (.aload_n 0, 1) := dq_at (q := (103, .aload_n 0, 1)) dm_De_median_0 52 rfl
theorem dc_De_median_104 : decode cd_De_median 104 = .ok (.getfield 15, 3) := dq_at (q := (104, .getfield 15, 3)) dm_De_median_0 53 rfl
theorem dc_De_median_107 : decode cd_De_median 107 = .ok (.iconst 4, 1) := dq_at (q := (107, .iconst 4, 1)) dm_De_median_0 54 rfl
theorem dc_De_median_108 : decode cd_De_median 108 = .ok (.aaload, 1) := dq_at (q := (108, .aaload, 1)) dm_De_median_0 55 rfl
theorem dc_De_median_109 : decode cd_De_median 109 = .ok (.aload_n 0, 1) := dq_at (q := (109, .aload_n 0, 1)) dm_De_median_0 56 rfl
theorem dc_De_median_110 : decode cd_De_median 110 = .ok (.getfield 53, 3) := dq_at (q := (110, .getfield 53, 3)) dm_De_median_0 57 rfl
theorem dc_De_median_113 : decode cd_De_median 113 = .ok (.invokevirtual 82, 3) := dq_at (q := (113, .invokevirtual 82, 3)) dm_De_median_0 58 rfl
theorem dc_De_median_116 : decode cd_De_median 116 = .ok (.iload 6, 2) := dq_at (q := (116, .iload 6, 2)) dm_De_median_0 59 rfl
def dl_De_median_60 : List (Nat × Instr × Nat) := [(118, .ireturn, 1)]
theorem dm_De_median_60 : dl_De_median_60.all (fun q => decide (decode cd_De_median q.1 = .ok (q.2.1, q.2.2))) = true := by decide +kernel
theorem dc_De_median_118 : decode cd_De_median 118 = .ok (.ireturn, 1) := dq_at (q := (118, .ireturn, 1)) dm_De_median_60 0 rfl
def dl_De_checkSlot_0 : List (Nat × Instr × Nat) := [(0, .iload_n 0, 1), (1, .ifCond .lt 8, 3), (4, .iload_n 0, 1), (5, .iconst 5, 1), (6, .if_icmp .lt 13, 3), (9, .new 86, 3), (12, .dup, 1), (13, .ldc 193, 2), (15, .invokespecial 90, 3), (18, .athrow, 1), (19, .return_, 1)]
theorem dm_De_checkSlot_0 : dl_De_checkSlot_0.all (fun q => decide (decode cd_De_checkSlot q.1 = .ok (q.2.1, q.2.2))) = true := by decide +kernel
theorem dc_De_checkSlot_0 : decode cd_De_checkSlot 0 = .ok (.iload_n 0, 1) := dq_at (q := (0, .iload_n 0, 1)) dm_De_checkSlot_0 0 rfl
theorem dc_De_checkSlot_1 : decode cd_De_checkSlot 1 = .ok (.ifCond .lt 8, 3) := dq_at (q := (1, .ifCond .lt 8, 3)) dm_De_checkSlot_0 1 rfl
theorem dc_De_checkSlot_4 : decode cd_De_checkSlot 4 = .ok (.iload_n 0, 1) := dq_at (q := (4, .iload_n 0, 1)) dm_De_checkSlot_0 2 rfl
theorem dc_De_checkSlot_5 : decode cd_De_checkSlot 5 = .ok (.iconst 5, 1) := dq_at (q := (5, .iconst 5, 1)) dm_De_checkSlot_0 3 rfl
theorem dc_De_checkSlot_6 : decode cd_De_checkSlot 6 = .ok (.if_icmp .lt 13, 3) := dq_at (q := (6, .if_icmp .lt 13, 3)) dm_De_checkSlot_0 4 rfl
theorem dc_De_checkSlot_9 : decode cd_De_checkSlot 9 = .ok (.new 86, 3) := dq_at (q := (9, .new 86, 3)) dm_De_checkSlot_0 5 rfl
theorem dc_De_checkSlot_12 : decode cd_De_checkSlot 12 = .ok (.dup, 1) := dq_at (q := (12, .dup, 1)) dm_De_checkSlot_0 6 rfl
theorem dc_De_checkSlot_13 : decode cd_De_checkSlot 13 = .ok (.ldc 193, 2) := dq_at (q := (13, .ldc 193, 2)) dm_De_checkSlot_0 7 rfl
theorem dc_De_checkSlot_15 : decode cd_De_checkSlot 15 = .ok (.invokespecial 90, 3) := dq_at (q := (15, .invokespecial 90, 3)) dm_De_checkSlot_0 8 rfl
theorem dc_De_checkSlot_18 : decode cd_De_checkSlot 18 = .ok (.athrow, 1) := dq_at (q := (18, .athrow, 1)) dm_De_checkSlot_0 9 rfl
theorem dc_De_checkSlot_19 : decode cd_De_checkSlot 19 = .ok (.return_, 1) := dq_at (q := (19, .return_, 1)) dm_De_checkSlot_0 10 rfl
def dl_De_checkSlots_0 : List (Nat × Instr × Nat) := [(0, .iload_n 0, 1), (1, .invokestatic 74, 3), (4, .iload_n 1, 1), (5, .invokestatic 74, 3), (8, .return_, 1)]
theorem dm_De_checkSlots_0 : dl_De_checkSlots_0.all (fun q => decide (decode cd_De_checkSlots q.1 = .ok (q.2.1, q.2.2))) = true := by decide +kernel
theorem dc_De_checkSlots_0 : decode cd_De_checkSlots 0 = .ok (.iload_n 0, 1) := dq_at (q := (0, .iload_n 0, 1)) dm_De_checkSlots_0 0 rfl
theorem dc_De_checkSlots_1 : decode cd_De_checkSlots 1 = .ok (.invokestatic 74, 3) := dq_at (q := (1, .invokestatic 74, 3)) dm_De_checkSlots_0 1 rfl
theorem dc_De_checkSlots_4 : decode cd_De_checkSlots 4 = .ok (.iload_n 1, 1) := dq_at (q := (4, .iload_n 1, 1)) dm_De_checkSlots_0 2 rfl
theorem dc_De_checkSlots_5 : decode cd_De_checkSlots 5 = .ok (.invokestatic 74, 3) := dq_at (q := (5, .invokestatic 74, 3)) dm_De_checkSlots_0 3 rfl
theorem dc_De_checkSlots_8 : decode cd_De_checkSlots 8 = .ok (.return_, 1) := dq_at (q := (8, .return_, 1)) dm_De_checkSlots_0 4 rfl
def dl_De_drawSlots_0 : List (Nat × Instr × Nat) := [(0, .aload_n 0, 1), (1, .aload_n 0, 1), (2, .getfield 15, 3), (5, .iload_n 1, 1), (6, .aaload, 1), (7, .getfield 91, 3), (10, .aload_n 0, 1), (11, .getfield 15, 3), (14, .iload_n 2, 1), (15, .aaload, 1), (16, .getfield 91, 3), (19, .invokevirtual 141, 3), (22, .aload_n 0, 1), (23, .getfield 30, 3), (26, .aload_n 0, 1), (27, .getfield 50, 3), (30, .aload_n 0, 1), (31, .getfield 9, 3), (34, .invokevirtual 195, 3), (37, .return_, 1)]
theorem dm_De_drawSlots_0 : dl_De_drawSlots_0.all (fun q => decide (decode cd_De_drawSlots q.1 = .ok (q.2.1, q.2.2))) = true := by decide +kernel
theorem dc_De_drawSlots_0 : decode cd_De_drawSlots 0 = .ok (.aload_n 0, 1) := dq_at (q := (0, .aload_n 0, 1)) dm_De_drawSlots_0 0 rfl
theorem dc_De_drawSlots_1 : decode cd_De_drawSlots 1 = .ok (.aload_n 0, 1) := dq_at (q := (1, .aload_n 0, 1)) dm_De_drawSlots_0 1 rfl
theorem dc_De_drawSlots_2 : decode cd_De_drawSlots 2 = .ok (.getfield 15, 3) := dq_at (q := (2, .getfield 15, 3)) dm_De_drawSlots_0 2 rfl
theorem dc_De_drawSlots_5 : decode cd_De_drawSlots 5 = .ok (.iload_n 1, 1) := dq_at (q := (5, .iload_n 1, 1)) dm_De_drawSlots_0 3 rfl
theorem dc_De_drawSlots_6 : decode cd_De_drawSlots 6 = .ok (.aaload, 1) := dq_at (q := (6, .aaload, 1)) dm_De_drawSlots_0 4 rfl
theorem dc_De_drawSlots_7 : decode cd_De_drawSlots 7 = .ok (.getfield 91, 3) := dq_at (q := (7, .getfield 91, 3)) dm_De_drawSlots_0 5 rfl
theorem dc_De_drawSlots_10 : decode cd_De_drawSlots 10 = .ok (.aload_n 0, 1) := dq_at (q := (10, .aload_n 0, 1)) dm_De_drawSlots_0 6 rfl
theorem dc_De_drawSlots_11 : decode cd_De_drawSlots 11 = .ok (.getfield 15, 3) := dq_at (q := (11, .getfield 15, 3)) dm_De_drawSlots_0 7 rfl
theorem dc_De_drawSlots_14 : decode cd_De_drawSlots 14 = .ok (.iload_n 2, 1) := dq_at (q := (14, .iload_n 2, 1)) dm_De_drawSlots_0 8 rfl
theorem dc_De_drawSlots_15 : decode cd_De_drawSlots 15 = .ok (.aaload, 1) := dq_at (q := (15, .aaload, 1)) dm_De_drawSlots_0 9 rfl
theorem dc_De_drawSlots_16 : decode cd_De_drawSlots 16 = .ok (.getfield 91, 3) := dq_at (q := (16, .getfield 91, 3)) dm_De_drawSlots_0 10 rfl
theorem dc_De_drawSlots_19 : decode cd_De_drawSlots 19 = .ok (.invokevirtual 141, 3) := dq_at (q := (19, .invokevirtual 141, 3)) dm_De_drawSlots_0 11 rfl
theorem dc_De_drawSlots_22 : decode cd_De_drawSlots 22 = .ok (.aload_n 0, 1) := dq_at (q := (22, .aload_n 0, 1)) dm_De_drawSlots_0 12 rfl
theorem dc_De_drawSlots_23 : decode cd_De_drawSlots 23 = .ok (.getfield 30, 3) := dq_at (q := (23, .getfield 30, 3)) dm_De_drawSlots_0 13 rfl
theorem dc_De_drawSlots_26 : decode cd_De_drawSlots 26 = .ok (.aload_n 0, 1) := dq_at (q := (26, .aload_n 0, 1)) dm_De_drawSlots_0 14 rfl
theorem dc_De_drawSlots_27 : decode cd_De_drawSlots 27 = .ok (.getfield 50, 3) := dq_at (q := (27, .getfield 50, 3)) dm_De_drawSlots_0 15 rfl
theorem dc_De_drawSlots_30 : decode cd_De_drawSlots 30 = .ok (.aload_n 0, 1) := dq_at (q := (30, .aload_n 0, 1)) dm_De_drawSlots_0 16 rfl
theorem dc_De_drawSlots_31 : decode cd_De_drawSlots 31 = .ok (.getfield 9, 3) := dq_at (q := (31, .getfield 9, 3)) dm_De_drawSlots_0 17 rfl
theorem dc_De_drawSlots_34 : decode cd_De_drawSlots 34 = .ok (.invokevirtual 195, 3) := dq_at (q := (34, .invokevirtual 195, 3)) dm_De_drawSlots_0 18 rfl
theorem dc_De_drawSlots_37 : decode cd_De_drawSlots 37 = .ok (.return_, 1) := dq_at (q := (37, .return_, 1)) dm_De_drawSlots_0 19 rfl
def dl_De_relate_0 : List (Nat × Instr × Nat) := [(0, .iconst 0, 1), (1, .istore_n 3, 1), (2, .iload_n 3, 1), (3, .aload_n 0, 1), (4, .getfield 9, 3), (7, .if_icmp .ge 39, 3), (10, .aload_n 2, 1), (11, .iload_n 3, 1), (12, .iaload, 1), (13, .istore 4, 2), (15, .aload_n 0, 1), (16, .getfield 47, 3), (19, .iload 4, 2), (21, .invokestatic 145, 3), (24, .iload 4, 2), (26, .ifCond .le 9, 3), (29, .iload_n 3, 1), (30, .iconst 1, 1), (31, .iadd, 1), (32, .goto 7, 3), (35, .iload_n 3, 1), (36, .ineg, 1), (37, .iconst 1, 1), (38, .isub, 1), (39, .iastore, 1), (40, .iinc 3 1, 3), (43, .goto (-41), 3), (46, .iconst 0, 1), (47, .istore_n 3, 1), (48, .iload_n 3, 1), (49, .aload_n 0, 1), (50, .getfield 9, 3), (53, .if_icmp .ge 44, 3), (56, .aload_n 1, 1), (57, .iload_n 3, 1), (58, .iaload, 1), (59, .istore 4, 2), (61, .aload_n 0, 1), (62, .getfield 50, 3), (65, .iload_n 3, 1), (66, .iload 4, 2), (68, .ifCond .le 13, 3), (71, .aload_n 0, 1), (72, .getfield 47, 3), (75, .iload 4, 2), (77, .iaload, 1), (78, .goto 12, 3), (81, .aload_n 0, 1), (82, .getfield 47, 3), (85, .iload 4, 2), (87, .ineg, 1), (88, .iaload, 1), (89, .ineg, 1), (90, .iastore, 1), (91, .iinc 3 1, 3), (94, .goto (-46), 3), (97, .return_, 1)]
theorem dm_De_relate_0 : dl_De_relate_0.all (fun q => decide (decode cd_De_relate q.1 = .ok (q.2.1, q.2.2))) = true := by decide +kernel
theorem dc_De_relate_0 : decode cd_De_relate 0 = .ok (.iconst 0, 1) := dq_at (q := (0, .iconst 0, 1)) dm_De_relate_0 0 rfl
theorem dc_De_relate_1 : decode cd_De_relate 1 = .ok (.istore_n 3, 1) := dq_at (q := (1, .istore_n 3, 1)) dm_De_relate_0 1 rfl
theorem dc_De_relate_2 : decode cd_De_relate 2 = .ok (.iload_n 3, 1) := dq_at (q := (2, .iload_n 3, 1)) dm_De_relate_0 2 rfl
theorem dc_De_relate_3 : decode cd_De_relate 3 = .ok (.aload_n 0, 1) := dq_at (q := (3, .aload_n 0, 1)) dm_De_relate_0 3 rfl
theorem dc_De_relate_4 : decode cd_De_relate 4 = .ok (.getfield 9, 3) := dq_at (q := (4, .getfield 9, 3)) dm_De_relate_0 4 rfl
theorem dc_De_relate_7 : decode cd_De_relate 7 = .ok (.if_icmp .ge 39, 3) := dq_at (q := (7, .if_icmp .ge 39, 3)) dm_De_relate_0 5 rfl
theorem dc_De_relate_10 : decode cd_De_relate 10 = .ok (.aload_n 2, 1) := dq_at (q := (10, .aload_n 2, 1)) dm_De_relate_0 6 rfl
theorem dc_De_relate_11 : decode cd_De_relate 11 = .ok (.iload_n 3, 1) := dq_at (q := (11, .iload_n 3, 1)) dm_De_relate_0 7 rfl
theorem dc_De_relate_12 : decode cd_De_relate 12 = .ok (.iaload, 1) := dq_at (q := (12, .iaload, 1)) dm_De_relate_0 8 rfl
theorem dc_De_relate_13 : decode cd_De_relate 13 = .ok (.istore 4, 2) := dq_at (q := (13, .istore 4, 2)) dm_De_relate_0 9 rfl
theorem dc_De_relate_15 : decode cd_De_relate 15 = .ok (.aload_n 0, 1) := dq_at (q := (15, .aload_n 0, 1)) dm_De_relate_0 10 rfl
theorem dc_De_relate_16 : decode cd_De_relate 16 = .ok (.getfield 47, 3) := dq_at (q := (16, .getfield 47, 3)) dm_De_relate_0 11 rfl
theorem dc_De_relate_19 : decode cd_De_relate 19 = .ok (.iload 4, 2) := dq_at (q := (19, .iload 4, 2)) dm_De_relate_0 12 rfl
theorem dc_De_relate_21 : decode cd_De_relate 21 = .ok (.invokestatic 145, 3) := dq_at (q := (21, .invokestatic 145, 3)) dm_De_relate_0 13 rfl
theorem dc_De_relate_24 : decode cd_De_relate 24 = .ok (.iload 4, 2) := dq_at (q := (24, .iload 4, 2)) dm_De_relate_0 14 rfl
theorem dc_De_relate_26 : decode cd_De_relate 26 = .ok (.ifCond .le 9, 3) := dq_at (q := (26, .ifCond .le 9, 3)) dm_De_relate_0 15 rfl
theorem dc_De_relate_29 : decode cd_De_relate 29 = .ok (.iload_n 3, 1) := dq_at (q := (29, .iload_n 3, 1)) dm_De_relate_0 16 rfl
theorem dc_De_relate_30 : decode cd_De_relate 30 = .ok (.iconst 1, 1) := dq_at (q := (30, .iconst 1, 1)) dm_De_relate_0 17 rfl
theorem dc_De_relate_31 : decode cd_De_relate 31 = .ok (.iadd, 1) := dq_at (q := (31, .iadd, 1)) dm_De_relate_0 18 rfl
theorem dc_De_relate_32 : decode cd_De_relate 32 = .ok (.goto 7, 3) := dq_at (q := (32, .goto 7, 3)) dm_De_relate_0 19 rfl
theorem dc_De_relate_35 : decode cd_De_relate 35 = .ok (.iload_n 3, 1) := dq_at (q := (35, .iload_n 3, 1)) dm_De_relate_0 20 rfl
theorem dc_De_relate_36 : decode cd_De_relate 36 = .ok (.ineg, 1) := dq_at (q := (36, .ineg, 1)) dm_De_relate_0 21 rfl
theorem dc_De_relate_37 : decode cd_De_relate 37 = .ok (.iconst 1, 1) := dq_at (q := (37, .iconst 1, 1)) dm_De_relate_0 22 rfl
theorem dc_De_relate_38 : decode cd_De_relate 38 = .ok (.isub, 1) := dq_at (q := (38, .isub, 1)) dm_De_relate_0 23 rfl
theorem dc_De_relate_39 : decode cd_De_relate 39 = .ok (.iastore, 1) := dq_at (q := (39, .iastore, 1)) dm_De_relate_0 24 rfl
theorem dc_De_relate_40 : decode cd_De_relate 40 = .ok (.iinc 3 1, 3) := dq_at (q := (40, .iinc 3 1, 3)) dm_De_relate_0 25 rfl
theorem dc_De_relate_43 : decode cd_De_relate 43 = .ok (.goto (-41), 3) := dq_at (q := (43, .goto (-41), 3)) dm_De_relate_0 26 rfl
theorem dc_De_relate_46 : decode cd_De_relate 46 = .ok (.iconst 0, 1) := dq_at (q := (46, .iconst 0, 1)) dm_De_relate_0 27 rfl
theorem dc_De_relate_47 : decode cd_De_relate 47 = .ok (.istore_n 3, 1) := dq_at (q := (47, .istore_n 3, 1)) dm_De_relate_0 28 rfl
theorem dc_De_relate_48 : decode cd_De_relate 48 = .ok (.iload_n 3, 1) := dq_at (q := (48, .iload_n 3, 1)) dm_De_relate_0 29 rfl
theorem dc_De_relate_49 : decode cd_De_relate 49 = .ok (.aload_n 0, 1) := dq_at (q := (49, .aload_n 0, 1)) dm_De_relate_0 30 rfl
theorem dc_De_relate_50 : decode cd_De_relate 50 = .ok (.getfield 9, 3) := dq_at (q := (50, .getfield 9, 3)) dm_De_relate_0 31 rfl
theorem dc_De_relate_53 : decode cd_De_relate 53 = .ok (.if_icmp .ge 44, 3) := dq_at (q := (53, .if_icmp .ge 44, 3)) dm_De_relate_0 32 rfl
theorem dc_De_relate_56 : decode cd_De_relate 56 = .ok (.aload_n 1, 1) := dq_at (q := (56, .aload_n 1, 1)) dm_De_relate_0 33 rfl
theorem dc_De_relate_57 : decode cd_De_relate 57 = .ok (.iload_n 3, 1) := dq_at (q := (57, .iload_n 3, 1)) dm_De_relate_0 34 rfl
theorem dc_De_relate_58 : decode cd_De_relate 58 = .ok (.iaload, 1) := dq_at (q := (58, .iaload, 1)) dm_De_relate_0 35 rfl
theorem dc_De_relate_59 : decode cd_De_relate 59 = .ok (.istore 4, 2) := dq_at (q := (59, .istore 4, 2)) dm_De_relate_0 36 rfl
theorem dc_De_relate_61 : decode cd_De_relate 61 = .ok (.aload_n 0, 1) := dq_at (q := (61, .aload_n 0, 1)) dm_De_relate_0 37 rfl
theorem dc_De_relate_62 : decode cd_De_relate 62 = .ok (.getfield 50, 3) := dq_at (q := (62, .getfield 50, 3)) dm_De_relate_0 38 rfl
theorem dc_De_relate_65 : decode cd_De_relate 65 = .ok (.iload_n 3, 1) := dq_at (q := (65, .iload_n 3, 1)) dm_De_relate_0 39 rfl
theorem dc_De_relate_66 : decode cd_De_relate 66 = .ok (.iload 4, 2) := dq_at (q := (66, .iload 4, 2)) dm_De_relate_0 40 rfl
theorem dc_De_relate_68 : decode cd_De_relate 68 = .ok (.ifCond .le 13, 3) := dq_at (q := (68, .ifCond .le 13, 3)) dm_De_relate_0 41 rfl
theorem dc_De_relate_71 : decode cd_De_relate 71 = .ok (.aload_n 0, 1) := dq_at (q := (71, .aload_n 0, 1)) dm_De_relate_0 42 rfl
theorem dc_De_relate_72 : decode cd_De_relate 72 = .ok (.getfield 47, 3) := dq_at (q := (72, .getfield 47, 3)) dm_De_relate_0 43 rfl
theorem dc_De_relate_75 : decode cd_De_relate 75 = .ok (.iload 4, 2) := dq_at (q := (75, .iload 4, 2)) dm_De_relate_0 44 rfl
theorem dc_De_relate_77 : decode cd_De_relate 77 = .ok (.iaload, 1) := dq_at (q := (77, .iaload, 1)) dm_De_relate_0 45 rfl
theorem dc_De_relate_78 : decode cd_De_relate 78 = .ok (.goto 12, 3) := dq_at (q := (78, .goto 12, 3)) dm_De_relate_0 46 rfl
theorem dc_De_relate_81 : decode cd_De_relate 81 = .ok (.aload_n 0, 1) := dq_at (q := (81, .aload_n 0, 1)) dm_De_relate_0 47 rfl
theorem dc_De_relate_82 : decode cd_De_relate 82 = .ok (.getfield 47, 3) := dq_at (q := (82, .getfield 47, 3)) dm_De_relate_0 48 rfl
theorem dc_De_relate_85 : decode cd_De_relate 85 = .ok (.iload 4, 2) := dq_at (q := (85, .iload 4, 2)) dm_De_relate_0 49 rfl
theorem dc_De_relate_87 : decode cd_De_relate 87 = .ok (.ineg, 1) := dq_at (q := (87, .ineg, 1)) dm_De_relate_0 50 rfl
theorem dc_De_relate_88 : decode cd_De_relate 88 = .ok (.iaload, 1) := dq_at (q := (88, .iaload, 1)) dm_De_relate_0 51 rfl
theorem dc_De_relate_89 : decode cd_De_relate 89 = .ok (.ineg, 1) := dq_at (q := (89, .ineg, 1)) dm_De_relate_0 52 rfl
theorem dc_De_relate_90 : decode cd_De_relate 90 = .ok (.iastore, 1) := dq_at (q := (90, .iastore, 1)) dm_De_relate_0 53 rfl
theorem dc_De_relate_91 : decode cd_De_relate 91 = .ok (.iinc 3 1, 3) := dq_at (q := (91, .iinc 3 1, 3)) dm_De_relate_0 54 rfl
theorem dc_De_relate_94 : decode cd_De_relate 94 = .ok (.goto (-46), 3) := dq_at (q := (94, .goto (-46), 3)) dm_De_relate_0 55 rfl
theorem dc_De_relate_97 : decode cd_De_relate 97 = .ok (.return_, 1) := dq_at (q := (97, .return_, 1)) dm_De_relate_0 56 rfl
