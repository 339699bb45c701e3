def dl_Ch_init_0 : List (Nat × Instr × Nat) := [(0, .aload_n 0, 1), (1, .invokespecial 3, 3), (4, .aload_n 0, 1), (5, .iload_n 1, 1), (6, .putfield 9, 3), (9, .iconst 1, 1), (10, .istore_n 2, 1), (11, .iconst 1, 1), (12, .istore_n 3, 1), (13, .iload_n 3, 1), (14, .iload_n 1, 1), (15, .if_icmp .gt 15, 3), (18, .iload_n 2, 1), (19, .iconst 2, 1), (20, .iload_n 3, 1), (21, .imul, 1), (22, .imul, 1), (23, .istore_n 2, 1), (24, .iinc 3 1, 3), (27, .goto (-14), 3), (30, .aload_n 0, 1), (31, .iload_n 2, 1), (32, .putfield 15, 3), (35, .aload_n 0, 1), (36, .iload_n 2, 1), (37, .newarray .int, 2), (39, .putfield 18, 3), (42, .aload_n 0, 1), (43, .iload_n 2, 1), (44, .newarray .long, 2), (46, .putfield 22, 3), (49, .aload_n 0, 1), (50, .bipush 6, 2), (52, .newarray .int, 2), (54, .putfield 26, 3), (57, .return_, 1)]
theorem dm_Ch_init_0 : dl_Ch_init_0.all (fun q => decide (decode cd_Ch_init q.1 = .ok (q.2.1, q.2.2))) = true := by decide +kernel
theorem dc_Ch_init_0 : decode cd_Ch_init 0 = .ok (.aload_n 0, 1) := dq_at (q := (0, .aload_n 0, 1)) dm_Ch_init_0 0 rfl
theorem dc_Ch_init_1 : decode cd_Ch_init 1 = .ok (.invokespecial 3, 3) := dq_at (q := (1, .invokespecial 3, 3)) dm_Ch_init_0 1 rfl
theorem dc_Ch_init_4 : decode cd_Ch_init 4 = .ok (.aload_n 0, 1) := dq_at (q := (4, .aload_n 0, 1)) dm_Ch_init_0 2 rfl
theorem dc_Ch_init_5 : decode cd_Ch_init 5 = .ok (.iload_n 1, 1) := dq_at (q := (5, .iload_n 1, 1)) dm_Ch_init_0 3 rfl
theorem dc_Ch_init_6 : decode cd_Ch_init 6 = .ok (.putfield 9, 3) := dq_at (q := (6, .putfield 9, 3)) dm_Ch_init_0 4 rfl
theorem dc_Ch_init_9 : decode cd_Ch_init 9 = .ok (.iconst 1, 1) := dq_at (q := (9, .iconst 1, 1)) dm_Ch_init_0 5 rfl
theorem dc_Ch_init_10 : decode cd_Ch_init 10 = .ok (.istore_n 2, 1) := dq_at (q := (10, .istore_n 2, 1)) dm_Ch_init_0 6 rfl
theorem dc_Ch_init_11 : decode cd_Ch_init 11 = .ok (.iconst 1, 1) := dq_at (q := (11, .iconst 1, 1)) dm_Ch_init_0 7 rfl
theorem dc_Ch_init_12 : decode cd_Ch_init 12 = .ok (.istore_n 3, 1) := dq_at (q := (12, .istore_n 3, 1)) dm_Ch_init_0 8 rfl
theorem dc_Ch_init_13 : decode cd_Ch_init 13 = .ok (.iload_n 3, 1) := dq_at (q := (13, .iload_n 3, 1)) dm_Ch_init_0 9 rfl
theorem dc_Ch_init_14 : decode cd_Ch_init 14 = .ok (.iload_n 1, 1) := dq_at (q := (14, .iload_n 1, 1)) dm_Ch_init_0 10 rfl
theorem dc_Ch_init_15 : decode cd_Ch_init 15 = .ok (.if_icmp .gt 15, 3) := dq_at (q := (15, .if_icmp .gt 15, 3)) dm_Ch_init_0 11 rfl
theorem dc_Ch_init_18 : decode cd_Ch_init 18 = .ok (.iload_n 2, 1) := dq_at (q := (18, .iload_n 2, 1)) dm_Ch_init_0 12 rfl
theorem dc_Ch_init_19 : decode cd_Ch_init 19 = .ok (.iconst 2, 1) := dq_at (q := (19, .iconst 2, 1)) dm_Ch_init_0 13 rfl
theorem dc_Ch_init_20 : decode cd_Ch_init 20 = .ok (.iload_n 3, 1) := dq_at (q := (20, .iload_n 3, 1)) dm_Ch_init_0 14 rfl
theorem dc_Ch_init_21 : decode cd_Ch_init 21 = .ok (.imul, 1) := dq_at (q := (21, .imul, 1)) dm_Ch_init_0 15 rfl
theorem dc_Ch_init_22 : decode cd_Ch_init 22 = .ok (.imul, 1) := dq_at (q := (22, .imul, 1)) dm_Ch_init_0 16 rfl
theorem dc_Ch_init_23 : decode cd_Ch_init 23 = .ok (.istore_n 2, 1) := dq_at (q := (23, .istore_n 2, 1)) dm_Ch_init_0 17 rfl
theorem dc_Ch_init_24 : decode cd_Ch_init 24 = .ok (.iinc 3 1, 3) := dq_at (q := (24, .iinc 3 1, 3)) dm_Ch_init_0 18 rfl
theorem dc_Ch_init_27 : decode cd_Ch_init 27 = .ok (.goto (-14), 3) := dq_at (q := (27, .goto (-14), 3)) dm_Ch_init_0 19 rfl
theorem dc_Ch_init_30 : decode cd_Ch_init 30 = .ok (.aload_n 0, 1) := dq_at (q := (30, .aload_n 0, 1)) dm_Ch_init_0 20 rfl
theorem dc_Ch_init_31 : decode cd_Ch_init 31 = .ok (.iload_n 2, 1) := dq_at (q := (31, .iload_n 2, 1)) dm_Ch_init_0 21 rfl
theorem dc_Ch_init_32 : decode cd_Ch_init 32 = .ok (.putfield 15, 3) := dq_at (q := (32, .putfield 15, 3)) dm_Ch_init_0 22 rfl
theorem dc_Ch_init_35 : decode cd_Ch_init 35 = .ok (.aload_n 0, 1) := dq_at (q := (35, .aload_n 0, 1)) dm_Ch_init_0 23 rfl
theorem dc_Ch_init_36 : decode cd_Ch_init 36 = .ok (.iload_n 2, 1) := dq_at (q := (36, .iload_n 2, 1)) dm_Ch_init_0 24 rfl
theorem dc_Ch_init_37 : decode cd_Ch_init 37 = .ok (.newarray .int, 2) := dq_at (q := (37, .newarray .int, 2)) dm_Ch_init_0 25 rfl
theorem dc_Ch_init_39 : decode cd_Ch_init 39 = .ok (.putfield 18, 3) := dq_at (q := (39, .putfield 18, 3)) dm_Ch_init_0 26 rfl
theorem dc_Ch_init_42 : decode cd_Ch_init 42 = .ok (.aload_n 0, 1) := dq_at (q := (42, .aload_n 0, 1)) dm_Ch_init_0 27 rfl
theorem dc_Ch_init_43 : decode cd_Ch_init 43 = .ok (.iload_n 2, 1) := dq_at (q := (43, .iload_n 2, 1)) dm_Ch_init_0 28 rfl
theorem dc_Ch_init_44 : decode cd_Ch_init 44 = .ok (.newarray .long, 2) := dq_at (q := (44, .newarray .long, 2)) dm_Ch_init_0 29 rfl
theorem dc_Ch_init_46 : decode cd_Ch_init 46 = .ok (.putfield 22, 3) := dq_at (q := (46, .putfield 22, 3)) dm_Ch_init_0 30 rfl
theorem dc_Ch_init_49 : decode cd_Ch_init 49 = .ok (.aload_n 0, 1) := dq_at (q := (49, .aload_n 0, 1)) dm_Ch_init_0 31 rfl
theorem dc_Ch_init_50 : decode cd_Ch_init 50 = .ok (.bipush 6, 2) := dq_at (q := (50, .bipush 6, 2)) dm_Ch_init_0 32 rfl
theorem dc_Ch_init_52 : decode cd_Ch_init 52 = .ok (.newarray .int, 2) := dq_at (q := (52, .newarray .int, 2)) dm_Ch_init_0 33 rfl
theorem dc_Ch_init_54 : decode cd_Ch_init 54 = .ok (.putfield 26, 3) := dq_at (q := (54, .putfield 26, 3)) dm_Ch_init_0 34 rfl
theorem dc_Ch_init_57 : decode cd_Ch_init 57 = .ok (.return_, 1) := dq_at (q := (57, .return_, 1)) dm_Ch_init_0 35 rfl
def dl_Ch_measure_0 : List (Nat × Instr × Nat) := [(0, .iconst 0, 1), (1, .istore_n 2, 1), (2, .iload_n 2, 1), (3, .aload_n 0, 1), (4, .getfield 15, 3), (7, .if_icmp .ge 40, 3), (10, .aload_n 0, 1), (11, .iload_n 2, 1), (12, .aload_n 0, 1), (13, .getfield 26, 3), (16, .invokevirtual 29, 3), (19, .aload_n 1, 1), (20, .aload_n 0, 1), (21, .getfield 26, 3), (24, .aload_n 0, 1), (25, .getfield 9, 3), (28, .invokevirtual 33, 3), (31, .aload_n 0, 1), (32, .getfield 18, 3), (35, .iload_n 2, 1), (36, .aload_n 1, 1), (37, .invokevirtual 39, 3), (40, .iastore, 1), (41, .iinc 2 1, 3), (44, .goto (-42), 3), (47, .return_, 1)]
theorem dm_Ch_measure_0 : dl_Ch_measure_0.all (fun q => decide (decode cd_Ch_measure q.1 = .ok (q.2.1, q.2.2))) = true := by decide +kernel
theorem dc_Ch_measure_0 : decode cd_Ch_measure 0 = .ok (.iconst 0, 1) := dq_at (q := (0, .iconst 0, 1)) dm_Ch_measure_0 0 rfl
theorem dc_Ch_measure_1 : decode cd_Ch_measure 1 = .ok (.istore_n 2, 1) := dq_at (q := (1, .istore_n 2, 1)) dm_Ch_measure_0 1 rfl
theorem dc_Ch_measure_2 : decode cd_Ch_measure 2 = .ok (.iload_n 2, 1) := dq_at (q := (2, .iload_n 2, 1)) dm_Ch_measure_0 2 rfl
theorem dc_Ch_measure_3 : decode cd_Ch_measure 3 = .ok (.aload_n 0, 1) := dq_at (q := (3, .aload_n 0, 1)) dm_Ch_measure_0 3 rfl
theorem dc_Ch_measure_4 : decode cd_Ch_measure 4 = .ok (.getfield 15, 3) := dq_at (q := (4, .getfield 15, 3)) dm_Ch_measure_0 4 rfl
theorem dc_Ch_measure_7 : decode cd_Ch_measure 7 = .ok (.if_icmp .ge 40, 3) := dq_at (q := (7, .if_icmp .ge 40, 3)) dm_Ch_measure_0 5 rfl
theorem dc_Ch_measure_10 : decode cd_Ch_measure 10 = .ok (.aload_n 0, 1) := dq_at (q := (10, .aload_n 0, 1)) dm_Ch_measure_0 6 rfl
theorem dc_Ch_measure_11 : decode cd_Ch_measure 11 = .ok (.iload_n 2, 1) := dq_at (q := (11, .iload_n 2, 1)) dm_Ch_measure_0 7 rfl
theorem dc_Ch_measure_12 : decode cd_Ch_measure 12 = .ok (.aload_n 0, 1) := dq_at (q := (12, .aload_n 0, 1)) dm_Ch_measure_0 8 rfl
theorem dc_Ch_measure_13 : decode cd_Ch_measure 13 = .ok (.getfield 26, 3) := dq_at (q := (13, .getfield 26, 3)) dm_Ch_measure_0 9 rfl
theorem dc_Ch_measure_16 : decode cd_Ch_measure 16 = .ok (.invokevirtual 29, 3) := dq_at (q := (16, .invokevirtual 29, 3)) dm_Ch_measure_0 10 rfl
theorem dc_Ch_measure_19 : decode cd_Ch_measure 19 = .ok (.aload_n 1, 1) := dq_at (q := (19, .aload_n 1, 1)) dm_Ch_measure_0 11 rfl
theorem dc_Ch_measure_20 : decode cd_Ch_measure 20 = .ok (.aload_n 0, 1) := dq_at (q := (20, .aload_n 0, 1)) dm_Ch_measure_0 12 rfl
theorem dc_Ch_measure_21 : decode cd_Ch_measure 21 = .ok (.getfield 26, 3) := dq_at (q := (21, .getfield 26, 3)) dm_Ch_measure_0 13 rfl
theorem dc_Ch_measure_24 : decode cd_Ch_measure 24 = .ok (.aload_n 0, 1) := dq_at (q := (24, .aload_n 0, 1)) dm_Ch_measure_0 14 rfl
theorem dc_Ch_measure_25 : decode cd_Ch_measure 25 = .ok (.getfield 9, 3) := dq_at (q := (25, .getfield 9, 3)) dm_Ch_measure_0 15 rfl
theorem dc_Ch_measure_28 : decode cd_Ch_measure 28 = .ok (.invokevirtual 33, 3) := dq_at (q := (28, .invokevirtual 33, 3)) dm_Ch_measure_0 16 rfl
theorem dc_Ch_measure_31 : decode cd_Ch_measure 31 = .ok (.aload_n 0, 1) := dq_at (q := (31, .aload_n 0, 1)) dm_Ch_measure_0 17 rfl
theorem dc_Ch_measure_32 : decode cd_Ch_measure 32 = .ok (.getfield 18, 3) := dq_at (q := (32, .getfield 18, 3)) dm_Ch_measure_0 18 rfl
theorem dc_Ch_measure_35 : decode cd_Ch_measure 35 = .ok (.iload_n 2, 1) := dq_at (q := (35, .iload_n 2, 1)) dm_Ch_measure_0 19 rfl
theorem dc_Ch_measure_36 : decode cd_Ch_measure 36 = .ok (.aload_n 1, 1) := dq_at (q := (36, .aload_n 1, 1)) dm_Ch_measure_0 20 rfl
theorem dc_Ch_measure_37 : decode cd_Ch_measure 37 = .ok (.invokevirtual 39, 3) := dq_at (q := (37, .invokevirtual 39, 3)) dm_Ch_measure_0 21 rfl
theorem dc_Ch_measure_40 : decode cd_Ch_measure 40 = .ok (.iastore, 1) := dq_at (q := (40, .iastore, 1)) dm_Ch_measure_0 22 rfl
theorem dc_Ch_measure_41 : decode cd_Ch_measure 41 = .ok (.iinc 2 1, 3) := dq_at (q := (41, .iinc 2 1, 3)) dm_Ch_measure_0 23 rfl
theorem dc_Ch_measure_44 : decode cd_Ch_measure 44 = .ok (.goto (-42), 3) := dq_at (q := (44, .goto (-42), 3)) dm_Ch_measure_0 24 rfl
theorem dc_Ch_measure_47 : decode cd_Ch_measure 47 = .ok (.return_, 1) := dq_at (q := (47, .return_, 1)) dm_Ch_measure_0 25 rfl
def dl_Ch_indexOf_0 : List (Nat × Instr × Nat) := [(0, .iconst 0, 1), (1, .istore_n 2, 1), (2, .iconst 0, 1), (3, .istore_n 3, 1), (4, .iload_n 3, 1), (5, .aload_n 0, 1), (6, .getfield 9, 3), (9, .if_icmp .ge 92, 3), (12, .aload_n 0, 1), (13, .getfield 9, 3), (16, .iload_n 3, 1), (17, .isub, 1), (18, .istore 4, 2), (20, .iconst 0, 1), (21, .istore 5, 2), (23, .iload_n 3, 1), (24, .iconst 1, 1), (25, .iadd, 1), (26, .istore 6, 2), (28, .iload 6, 2), (30, .aload_n 0, 1), (31, .getfield 9, 3), (34, .if_icmp .ge 28, 3), (37, .aload_n 1, 1), (38, .iload 6, 2), (40, .iaload, 1), (41, .invokestatic 43, 3), (44, .aload_n 1, 1), (45, .iload_n 3, 1), (46, .iaload, 1), (47, .invokestatic 43, 3), (50, .if_icmp .ge 6, 3), (53, .iinc 5 1, 3), (56, .iinc 6 1, 3), (59, .goto (-31), 3), (62, .aload_n 1, 1), (63, .iload_n 3, 1), (64, .iaload, 1), (65, .ifCond .le 11, 3), (68, .iload 4, 2), (70, .iload 5, 2), (72, .iadd, 1), (73, .goto 10, 3), (76, .iload 4, 2), (78, .iconst 1, 1), (79, .isub, 1), (80, .iload 5, 2), (82, .isub, 1), (83, .istore 6, 2), (85, .iload_n 2, 1), (86, .iconst 2, 1), (87, .imul, 1), (88, .iload 4, 2), (90, .imul, 1), (91, .iload 6, 2), (93, .iadd, 1), (94, .istore_n 2, 1), (95, .iinc 3 1, 3), (98, .goto (-94), 3), (101, .iload_n 2, 1)]
theorem dm_Ch_indexOf_0 : dl_Ch_indexOf_0.all (fun q => decide (decode cd_Ch_indexOf q.1 = .ok (q.2.1, q.2.2))) = true := by decide +kernel
theorem dc_Ch_indexOf_0 : decode cd_Ch_indexOf 0 = .ok (.iconst 0, 1) := dq_at (q := (0, .iconst 0, 1)) dm_Ch_indexOf_0 0 rfl
theorem dc_Ch_indexOf_1 : decode cd_Ch_indexOf 1 = .ok (.istore_n 2, 1) := dq_at (q := (1, .istore_n 2, 1)) dm_Ch_indexOf_0 1 rfl
theorem dc_Ch_indexOf_2 : decode cd_Ch_indexOf 2 = .ok (.iconst 0, 1) := dq_at (q := (2, .iconst 0, 1)) dm_Ch_indexOf_0 2 rfl
theorem dc_Ch_indexOf_3 : decode cd_Ch_indexOf 3 = .ok (.istore_n 3, 1) := dq_at (q := (3, .istore_n 3, 1)) dm_Ch_indexOf_0 3 rfl
theorem dc_Ch_indexOf_4 : decode cd_Ch_indexOf 4 = .ok (.iload_n 3, 1) := dq_at (q := (4, .iload_n 3, 1)) dm_Ch_indexOf_0 4 rfl
theorem dc_Ch_indexOf_5 : decode cd_Ch_indexOf 5 = .ok (.aload_n 0, 1) := dq_at (q := (5, .aload_n 0, 1)) dm_Ch_indexOf_0 5 rfl
theorem dc_Ch_indexOf_6 : decode cd_Ch_indexOf 6 = .ok (.getfield 9, 3) := dq_at (q := (6, .getfield 9, 3)) dm_Ch_indexOf_0 6 rfl
theorem dc_Ch_indexOf_9 : decode cd_Ch_indexOf 9 = .ok (.if_icmp .ge 92, 3) := dq_at (q := (9, .if_icmp .ge 92, 3)) dm_Ch_indexOf_0 7 rfl
theorem dc_Ch_indexOf_12 : decode cd_Ch_indexOf 12 = .ok (.aload_n 0, 1) := dq_at (q := (12, .aload_n 0, 1)) dm_Ch_indexOf_0 8 rfl
theorem dc_Ch_indexOf_13 : decode cd_Ch_indexOf 13 = .ok (.getfield 9, 3) := dq_at (q := (13, .getfield 9, 3)) dm_Ch_indexOf_0 9 rfl
theorem dc_Ch_indexOf_16 : decode cd_Ch_indexOf 16 = .ok (.iload_n 3, 1) := dq_at (q := (16, .iload_n 3, 1)) dm_Ch_indexOf_0 10 rfl
theorem dc_Ch_indexOf_17 : decode cd_Ch_indexOf 17 = .ok (.isub, 1) := dq_at (q := (17, .isub, 1)) dm_Ch_indexOf_0 11 rfl
theorem dc_Ch_indexOf_18 : decode cd_Ch_indexOf 18 = .ok (.istore 4, 2) := dq_at (q := (18, .istore 4, 2)) dm_Ch_indexOf_0 12 rfl
theorem dc_Ch_indexOf_20 : decode cd_Ch_indexOf 20 = .ok (.iconst 0, 1) := dq_at (q := (20, .iconst 0, 1)) dm_Ch_indexOf_0 13 rfl
theorem dc_Ch_indexOf_21 : decode cd_Ch_indexOf 21 = .ok (.istore 5, 2) := dq_at (q := (21, .istore 5, 2)) dm_Ch_indexOf_0 14 rfl
theorem dc_Ch_indexOf_23 : decode cd_Ch_indexOf 23 = .ok (.iload_n 3, 1) := dq_at (q := (23, .iload_n 3, 1)) dm_Ch_indexOf_0 15 rfl
theorem dc_Ch_indexOf_24 : decode cd_Ch_indexOf 24 = .ok (.iconst 1, 1) := dq_at (q := (24, .iconst 1, 1)) dm_Ch_indexOf_0 16 rfl
theorem dc_Ch_indexOf_25 : decode cd_Ch_indexOf 25 = .ok (.iadd, 1) := dq_at (q := (25, .iadd, 1)) dm_Ch_indexOf_0 17 rfl
theorem dc_Ch_indexOf_26 : decode cd_Ch_indexOf 26 = .ok (.istore 6, 2) := dq_at (q := (26, .istore 6, 2)) dm_Ch_indexOf_0 18 rfl
theorem dc_Ch_indexOf_28 : decode cd_Ch_indexOf 28 = .ok (.iload 6, 2) := dq_at (q := (28, .iload 6, 2)) dm_Ch_indexOf_0 19 rfl
theorem dc_Ch_indexOf_30 : decode cd_Ch_indexOf 30 = .ok (.aload_n 0, 1) := dq_at (q := (30, .aload_n 0, 1)) dm_Ch_indexOf_0 20 rfl
theorem dc_Ch_indexOf_31 : decode cd_Ch_indexOf 31 = .ok (.getfield 9, 3) := dq_at (q := (31, .getfield 9, 3)) dm_Ch_indexOf_0 21 rfl
theorem dc_Ch_indexOf_34 : decode cd_Ch_indexOf 34 = .ok (.if_icmp .ge 28, 3) := dq_at (q := (34, .if_icmp .ge 28, 3)) dm_Ch_indexOf_0 22 rfl
theorem dc_Ch_indexOf_37 : decode cd_Ch_indexOf 37 = .ok (.aload_n 1, 1) := dq_at (q := (37, .aload_n 1, 1)) dm_Ch_indexOf_0 23 rfl
theorem dc_Ch_indexOf_38 : decode cd_Ch_indexOf 38 = .ok (.iload 6, 2) := dq_at (q := (38, .iload 6, 2)) dm_Ch_indexOf_0 24 rfl
theorem dc_Ch_indexOf_40 : decode cd_Ch_indexOf 40 = .ok (.iaload, 1) := dq_at (q := (40, .iaload, 1)) dm_Ch_indexOf_0 25 rfl
theorem dc_Ch_indexOf_41 : decode cd_Ch_indexOf 41 = .ok (.invokestatic 43, 3) := dq_at (q := (41, .invokestatic 43, 3)) dm_Ch_indexOf_0 26 rfl
theorem dc_Ch_indexOf_44 : decode cd_Ch_indexOf 44 = .ok (.aload_n 1, 1) := dq_at (q := (44, .aload_n 1, 1)) dm_Ch_indexOf_0 27 rfl
theorem dc_Ch_indexOf_45 : decode cd_Ch_indexOf 45 = .ok (.iload_n 3, 1) := dq_at (q := (45, .iload_n 3, 1)) dm_Ch_indexOf_0 28 rfl
theorem dc_Ch_indexOf_46 : decode cd_Ch_indexOf 46 = .ok (.iaload, 1) := dq_at (q := (46, .iaload, 1)) dm_Ch_indexOf_0 29 rfl
theorem dc_Ch_indexOf_47 : decode cd_Ch_indexOf 47 = .ok (.invokestatic 43, 3) := dq_at (q := (47, .invokestatic 43, 3)) dm_Ch_indexOf_0 30 rfl
theorem dc_Ch_indexOf_50 : decode cd_Ch_indexOf 50 = .ok (.if_icmp .ge 6, 3) := dq_at (q := (50, .if_icmp .ge 6, 3)) dm_Ch_indexOf_0 31 rfl
theorem dc_Ch_indexOf_53 : decode cd_Ch_indexOf 53 = .ok (.iinc 5 1, 3) := dq_at (q := (53, .iinc 5 1, 3)) dm_Ch_indexOf_0 32 rfl
theorem dc_Ch_indexOf_56 : decode cd_Ch_indexOf 56 = .ok (.iinc 6 1, 3) := dq_at (q := (56, .iinc 6 1, 3)) dm_Ch_indexOf_0 33 rfl
theorem dc_Ch_indexOf_59 : decode cd_Ch_indexOf 59 = .ok (.goto (-31), 3) := dq_at (q := (59, .goto (-31), 3)) dm_Ch_indexOf_0 34 rfl
theorem dc_Ch_indexOf_62 : decode cd_Ch_indexOf 62 = .ok (.aload_n 1, 1) := dq_at (q := (62, .aload_n 1, 1)) dm_Ch_indexOf_0 35 rfl
theorem dc_Ch_indexOf_63 : decode cd_Ch_indexOf 63 = .ok (.iload_n 3, 1) := dq_at (q := (63, .iload_n 3, 1)) dm_Ch_indexOf_0 36 rfl
theorem dc_Ch_indexOf_64 : decode cd_Ch_indexOf 64 = .ok (.iaload, 1) := dq_at (q := (64, .iaload, 1)) dm_Ch_indexOf_0 37 rfl
theorem dc_Ch_indexOf_65 : decode cd_Ch_indexOf 65 = .ok (.ifCond .le 11, 3) := dq_at (q := (65, .ifCond .le 11, 3)) dm_Ch_indexOf_0 38 rfl
theorem dc_Ch_indexOf_68 : decode cd_Ch_indexOf 68 = .ok (.iload 4, 2) := dq_at (q := (68, .iload 4, 2)) dm_Ch_indexOf_0 39 rfl
theorem dc_Ch_indexOf_70 : decode cd_Ch_indexOf 70 = .ok (.iload 5, 2) := dq_at (q := (70, .iload 5, 2)) dm_Ch_indexOf_0 40 rfl
theorem dc_Ch_indexOf_72 : decode cd_Ch_indexOf 72 = .ok (.iadd, 1) := dq_at (q := (72, .iadd, 1)) dm_Ch_indexOf_0 41 rfl
theorem dc_Ch_indexOf_73 : decode cd_Ch_indexOf 73 = .ok (.goto 10, 3) := dq_at (q := (73, .goto 10, 3)) dm_Ch_indexOf_0 42 rfl
theorem dc_Ch_indexOf_76 : decode cd_Ch_indexOf 76 = .ok (.iload 4, 2) := dq_at (q := (76, .iload 4, 2)) dm_Ch_indexOf_0 43 rfl
theorem dc_Ch_indexOf_78 : decode cd_Ch_indexOf 78 = .ok (.iconst 1, 1) := dq_at (q := (78, .iconst 1, 1)) dm_Ch_indexOf_0 44 rfl
theorem dc_Ch_indexOf_79 : decode cd_Ch_indexOf 79 = .ok (.isub, 1) := dq_at (q := (79, .isub, 1)) dm_Ch_indexOf_0 45 rfl
theorem dc_Ch_indexOf_80 : decode cd_Ch_indexOf 80 = .ok (.iload 5, 2) := dq_at (q := (80, .iload 5, 2)) dm_Ch_indexOf_0 46 rfl
theorem dc_Ch_indexOf_82 : decode cd_Ch_indexOf 82 = .ok (.isub, 1) := dq_at (q := (82, .isub, 1)) dm_Ch_indexOf_0 47 rfl
theorem dc_Ch_indexOf_83 : decode cd_Ch_indexOf 83 = .ok (.istore 6, 2) := dq_at (q := (83, .istore 6, 2)) dm_Ch_indexOf_0 48 rfl
theorem dc_Ch_indexOf_85 : decode cd_Ch_indexOf 85 = .ok (.iload_n 2, 1) := dq_at (q := (85, .iload_n 2, 1)) dm_Ch_indexOf_0 49 rfl
theorem dc_Ch_indexOf_86 : decode cd_Ch_indexOf 86 = .ok (.iconst 2, 1) := dq_at (q := (86, .iconst 2, 1)) dm_Ch_indexOf_0 50 rfl
theorem dc_Ch_indexOf_87 : decode cd_Ch_indexOf 87 = .ok (.imul, 1) := dq_at (q := (87, .imul, 1)) dm_Ch_indexOf_0 51 rfl
theorem dc_Ch_indexOf_88 : decode cd_Ch_indexOf 88 = .ok (.iload 4, 2) := dq_at (q := (88, .iload 4, 2)) dm_Ch_indexOf_0 52 rfl
theorem dc_Ch_indexOf_90 : decode cd_Ch_indexOf 90 = .ok (.imul, 1) := dq_at (q := (90, .imul, 1)) dm_Ch_indexOf_0 53 rfl
theorem dc_Ch_indexOf_91 : decode cd_Ch_indexOf 91 = .ok (.iload 6, 2) := dq_at (q := (91, .iload 6, 2)) dm_Ch_indexOf_0 54 rfl
theorem dc_Ch_indexOf_93 : decode cd_Ch_indexOf 93 = .ok (.iadd, 1) := dq_at (q := (93, .iadd, 1)) dm_Ch_indexOf_0 55 rfl
theorem dc_Ch_indexOf_94 : decode cd_Ch_indexOf 94 = .ok (.istore_n 2, 1) := dq_at (q := (94, .istore_n 2, 1)) dm_Ch_indexOf_0 56 rfl
theorem dc_Ch_indexOf_95 : decode cd_Ch_indexOf 95 = .ok (.iinc 3 1, 3) := dq_at (q := (95, .iinc 3 1, 3)) dm_Ch_indexOf_0 57 rfl
theorem dc_Ch_indexOf_98 : decode cd_Ch_indexOf 98 = .ok (.goto (-94), 3) := dq_at (q := (98, .goto (-94), 3)) dm_Ch_indexOf_0 58 rfl
theorem dc_Ch_indexOf_101 : decode cd_Ch_indexOf 101 = .ok (.iload_n 2, 1) := dq_at (q := (101, .iload_n 2, 1)) dm_Ch_indexOf_0 59 rfl
def dl_Ch_indexOf_60 : List (Nat × Instr × Nat) := [(102, .ireturn, 1)]
theorem dm_Ch_indexOf_60 : dl_Ch_indexOf_60.all (fun q => decide (decode cd_Ch_indexOf q.1 = .ok (q.2.1, q.2.2))) = true := by decide +kernel
theorem dc_Ch_indexOf_102 : decode cd_Ch_indexOf 102 = .ok (.ireturn, 1) := dq_at (q := (102, .ireturn, 1)) dm_Ch_indexOf_60 0 rfl
def dl_Ch_layOut_0 : List (Nat × Instr × Nat) := [(0, .iload_n 1, 1), (1, .istore_n 3, 1), (2, .aload_n 0, 1), (3, .getfield 9, 3), (6, .iconst 1, 1), (7, .isub, 1), (8, .istore 4, 2), (10, .iload 4, 2), (12, .ifCond .lt 66, 3), (15, .aload_n 0, 1), (16, .getfield 9, 3), (19, .iload 4, 2), (21, .isub, 1), (22, .istore 5, 2), (24, .iload_n 3, 1), (25, .iconst 2, 1), (26, .iload 5, 2), (28, .imul, 1), (29, .irem, 1), (30, .istore 6, 2), (32, .iload_n 3, 1), (33, .iconst 2, 1), (34, .iload 5, 2), (36, .imul, 1), (37, .idiv, 1), (38, .istore_n 3, 1), (39, .aload_n 2, 1), (40, .iload 4, 2), (42, .iload 6, 2), (44, .iload 5, 2), (46, .if_icmp .ge 11, 3), (49, .iload 6, 2), (51, .iload 5, 2), (53, .isub, 1), (54, .goto 10, 3), (57, .iload 6, 2), (59, .iload 5, 2), (61, .isub, 1), (62, .iconst 1, 1), (63, .iadd, 1), (64, .iastore, 1), (65, .aload_n 0, 1), (66, .aload_n 2, 1), (67, .iload 4, 2), (69, .invokevirtual 49, 3), (72, .iinc 4 (-1), 3), (75, .goto (-65), 3), (78, .return_, 1)]
theorem dm_Ch_layOut_0 : dl_Ch_layOut_0.all (fun q => decide (decode cd_Ch_layOut q.1 = .ok (q.2.1, q.2.2))) = true := by decide +kernel
theorem dc_Ch_layOut_0 : decode cd_Ch_layOut 0 = .ok (.iload_n 1, 1) := dq_at (q := (0, .iload_n 1, 1)) dm_Ch_layOut_0 0 rfl
theorem dc_Ch_layOut_1 : decode cd_Ch_layOut 1 = .ok (.istore_n 3, 1) := dq_at (q := (1, .istore_n 3, 1)) dm_Ch_layOut_0 1 rfl
theorem dc_Ch_layOut_2 : decode cd_Ch_layOut 2 = .ok (.aload_n 0, 1) := dq_at (q := (2, .aload_n 0, 1)) dm_Ch_layOut_0 2 rfl
theorem dc_Ch_layOut_3 : decode cd_Ch_layOut 3 = .ok (.getfield 9, 3) := dq_at (q := (3, .getfield 9, 3)) dm_Ch_layOut_0 3 rfl
theorem dc_Ch_layOut_6 : decode cd_Ch_layOut 6 = .ok (.iconst 1, 1) := dq_at (q := (6, .iconst 1, 1)) dm_Ch_layOut_0 4 rfl
theorem dc_Ch_layOut_7 : decode cd_Ch_layOut 7 = .ok (.isub, 1) := dq_at (q := (7, .isub, 1)) dm_Ch_layOut_0 5 rfl
theorem dc_Ch_layOut_8 : decode cd_Ch_layOut 8 = .ok (.istore 4, 2) := dq_at (q := (8, .istore 4, 2)) dm_Ch_layOut_0 6 rfl
theorem dc_Ch_layOut_10 : decode cd_Ch_layOut 10 = .ok (.iload 4, 2) := dq_at (q := (10, .iload 4, 2)) dm_Ch_layOut_0 7 rfl
theorem dc_Ch_layOut_12 : decode cd_Ch_layOut 12 = .ok (.ifCond .lt 66, 3) := dq_at (q := (12, .ifCond .lt 66, 3)) dm_Ch_layOut_0 8 rfl
theorem dc_Ch_layOut_15 : decode cd_Ch_layOut 15 = .ok (.aload_n 0, 1) := dq_at (q := (15, .aload_n 0, 1)) dm_Ch_layOut_0 9 rfl
theorem dc_Ch_layOut_16 : decode cd_Ch_layOut 16 = .ok (.getfield 9, 3) := dq_at (q := (16, .getfield 9, 3)) dm_Ch_layOut_0 10 rfl
theorem dc_Ch_layOut_19 : decode cd_Ch_layOut 19 = .ok (.iload 4, 2) := dq_at (q := (19, .iload 4, 2)) dm_Ch_layOut_0 11 rfl
theorem dc_Ch_layOut_21 : decode cd_Ch_layOut 21 = .ok (.isub, 1) := dq_at (q := (21, .isub, 1)) dm_Ch_layOut_0 12 rfl
theorem dc_Ch_layOut_22 : decode cd_Ch_layOut 22 = .ok (.istore 5, 2) := dq_at (q := (22, .istore 5, 2)) dm_Ch_layOut_0 13 rfl
theorem dc_Ch_layOut_24 : decode cd_Ch_layOut 24 = .ok (.iload_n 3, 1) := dq_at (q := (24, .iload_n 3, 1)) dm_Ch_layOut_0 14 rfl
theorem dc_Ch_layOut_25 : decode cd_Ch_layOut 25 = .ok (.iconst 2, 1) := dq_at (q := (25, .iconst 2, 1)) dm_Ch_layOut_0 15 rfl
theorem dc_Ch_layOut_26 : decode cd_Ch_layOut 26 = .ok (.iload 5, 2) := dq_at (q := (26, .iload 5, 2)) dm_Ch_layOut_0 16 rfl
theorem dc_Ch_layOut_28 : decode cd_Ch_layOut 28 = .ok (.imul, 1) := dq_at (q := (28, .imul, 1)) dm_Ch_layOut_0 17 rfl
theorem dc_Ch_layOut_29 : decode cd_Ch_layOut 29 = .ok (.irem, 1) := dq_at (q := (29, .irem, 1)) dm_Ch_layOut_0 18 rfl
theorem dc_Ch_layOut_30 : decode cd_Ch_layOut 30 = .ok (.istore 6, 2) := dq_at (q := (30, .istore 6, 2)) dm_Ch_layOut_0 19 rfl
theorem dc_Ch_layOut_32 : decode cd_Ch_layOut 32 = .ok (.iload_n 3, 1) := dq_at (q := (32, .iload_n 3, 1)) dm_Ch_layOut_0 20 rfl
theorem dc_Ch_layOut_33 : decode cd_Ch_layOut 33 = .ok (.iconst 2, 1) := dq_at (q := (33, .iconst 2, 1)) dm_Ch_layOut_0 21 rfl
theorem dc_Ch_layOut_34 : decode cd_Ch_layOut 34 = .ok (.iload 5, 2) := dq_at (q := (34, .iload 5, 2)) dm_Ch_layOut_0 22 rfl
theorem dc_Ch_layOut_36 : decode cd_Ch_layOut 36 = .ok (.imul, 1) := dq_at (q := (36, .imul, 1)) dm_Ch_layOut_0 23 rfl
theorem dc_Ch_layOut_37 : decode cd_Ch_layOut 37 = .ok (.idiv, 1) := dq_at (q := (37, .idiv, 1)) dm_Ch_layOut_0 24 rfl
theorem dc_Ch_layOut_38 : decode cd_Ch_layOut 38 = .ok (.istore_n 3, 1) := dq_at (q := (38, .istore_n 3, 1)) dm_Ch_layOut_0 25 rfl
theorem dc_Ch_layOut_39 : decode cd_Ch_layOut 39 = .ok (.aload_n 2, 1) := dq_at (q := (39, .aload_n 2, 1)) dm_Ch_layOut_0 26 rfl
theorem dc_Ch_layOut_40 : decode cd_Ch_layOut 40 = .ok (.iload 4, 2) := dq_at (q := (40, .iload 4, 2)) dm_Ch_layOut_0 27 rfl
theorem dc_Ch_layOut_42 : decode cd_Ch_layOut 42 = .ok (.iload 6, 2) := dq_at (q := (42, .iload 6, 2)) dm_Ch_layOut_0 28 rfl
theorem dc_Ch_layOut_44 : decode cd_Ch_layOut 44 = .ok (.iload 5, 2) := dq_at (q := (44, .iload 5, 2)) dm_Ch_layOut_0 29 rfl
theorem dc_Ch_layOut_46 : decode cd_Ch_layOut 46 = .ok (.if_icmp .ge 11, 3) := dq_at (q := (46, .if_icmp .ge 11, 3)) dm_Ch_layOut_0 30 rfl
theorem dc_Ch_layOut_49 : decode cd_Ch_layOut 49 = .ok (.iload 6, 2) := dq_at (q := (49, .iload 6, 2)) dm_Ch_layOut_0 31 rfl
theorem dc_Ch_layOut_51 : decode cd_Ch_layOut 51 = .ok (.iload 5, 2) := dq_at (q := (51, .iload 5, 2)) dm_Ch_layOut_0 32 rfl
theorem dc_Ch_layOut_53 : decode cd_Ch_layOut 53 = .ok (.isub, 1) := dq_at (q := (53, .isub, 1)) dm_Ch_layOut_0 33 rfl
theorem dc_Ch_layOut_54 : decode cd_Ch_layOut 54 = .ok (.goto 10, 3) := dq_at (q := (54, .goto 10, 3)) dm_Ch_layOut_0 34 rfl
theorem dc_Ch_layOut_57 : decode cd_Ch_layOut 57 = .ok (.iload 6, 2) := dq_at (q := (57, .iload 6, 2)) dm_Ch_layOut_0 35 rfl
theorem dc_Ch_layOut_59 : decode cd_Ch_layOut 59 = .ok (.iload 5, 2) := dq_at (q := (59, .iload 5, 2)) dm_Ch_layOut_0 36 rfl
theorem dc_Ch_layOut_61 : decode cd_Ch_layOut 61 = .ok (.isub, 1) := dq_at (q := (61, .isub, 1)) dm_Ch_layOut_0 37 rfl
theorem dc_Ch_layOut_62 : decode cd_Ch_layOut 62 = .ok (.iconst 1, 1) := dq_at (q := (62, .iconst 1, 1)) dm_Ch_layOut_0 38 rfl
theorem dc_Ch_layOut_63 : decode cd_Ch_layOut 63 = .ok (.iadd, 1) := dq_at (q := (63, .iadd, 1)) dm_Ch_layOut_0 39 rfl
theorem dc_Ch_layOut_64 : decode cd_Ch_layOut 64 = .ok (.iastore, 1) := dq_at (q := (64, .iastore, 1)) dm_Ch_layOut_0 40 rfl
theorem dc_Ch_layOut_65 : decode cd_Ch_layOut 65 = .ok (.aload_n 0, 1) := dq_at (q := (65, .aload_n 0, 1)) dm_Ch_layOut_0 41 rfl
theorem dc_Ch_layOut_66 : decode cd_Ch_layOut 66 = .ok (.aload_n 2, 1) := dq_at (q := (66, .aload_n 2, 1)) dm_Ch_layOut_0 42 rfl
theorem dc_Ch_layOut_67 : decode cd_Ch_layOut 67 = .ok (.iload 4, 2) := dq_at (q := (67, .iload 4, 2)) dm_Ch_layOut_0 43 rfl
theorem dc_Ch_layOut_69 : decode cd_Ch_layOut 69 = .ok (.invokevirtual 49, 3) := dq_at (q := (69, .invokevirtual 49, 3)) dm_Ch_layOut_0 44 rfl
theorem dc_Ch_layOut_72 : decode cd_Ch_layOut 72 = .ok (.iinc 4 (-1), 3) := dq_at (q := (72, .iinc 4 (-1), 3)) dm_Ch_layOut_0 45 rfl
theorem dc_Ch_layOut_75 : decode cd_Ch_layOut 75 = .ok (.goto (-65), 3) := dq_at (q := (75, .goto (-65), 3)) dm_Ch_layOut_0 46 rfl
theorem dc_Ch_layOut_78 : decode cd_Ch_layOut 78 = .ok (.return_, 1) := dq_at (q := (78, .return_, 1)) dm_Ch_layOut_0 47 rfl
def dl_Ch_makeRoom_0 : List (Nat × Instr × Nat) := [(0, .iload_n 2, 1), (1, .iconst 1, 1), (2, .iadd, 1), (3, .istore_n 3, 1), (4, .iload_n 3, 1), (5, .aload_n 0, 1), (6, .getfield 9, 3), (9, .if_icmp .ge 41, 3), (12, .aload_n 1, 1), (13, .iload_n 3, 1), (14, .iaload, 1), (15, .invokestatic 43, 3), (18, .aload_n 1, 1), (19, .iload_n 2, 1), (20, .iaload, 1), (21, .invokestatic 43, 3), (24, .if_icmp .lt 20, 3), (27, .aload_n 1, 1), (28, .iload_n 3, 1), (29, .dup2, 1), (30, .iaload, 1), (31, .aload_n 1, 1), (32, .iload_n 3, 1), (33, .iaload, 1), (34, .ifCond .le 7, 3), (37, .iconst 1, 1), (38, .goto 4, 3), (41, .iconst (-1), 1), (42, .iadd, 1), (43, .iastore, 1), (44, .iinc 3 1, 3), (47, .goto (-43), 3), (50, .return_, 1)]
theorem dm_Ch_makeRoom_0 : dl_Ch_makeRoom_0.all (fun q => decide (decode cd_Ch_makeRoom q.1 = .ok (q.2.1, q.2.2))) = true := by decide +kernel
theorem dc_Ch_makeRoom_0 : decode cd_Ch_makeRoom 0 = .ok (.iload_n 2, 1) := dq_at (q := (0, .iload_n 2, 1)) dm_Ch_makeRoom_0 0 rfl
theorem dc_Ch_makeRoom_1 : decode cd_Ch_makeRoom 1 = .ok (.iconst 1, 1) := dq_at (q := (1, .iconst 1, 1)) dm_Ch_makeRoom_0 1 rfl
theorem dc_Ch_makeRoom_2 : decode cd_Ch_makeRoom 2 = .ok (.iadd, 1) := dq_at (q := (2, .iadd, 1)) dm_Ch_makeRoom_0 2 rfl
theorem dc_Ch_makeRoom_3 : decode cd_Ch_makeRoom 3 = .ok (.istore_n 3, 1) := dq_at (q := (3, .istore_n 3, 1)) dm_Ch_makeRoom_0 3 rfl
theorem dc_Ch_makeRoom_4 : decode cd_Ch_makeRoom 4 = .ok (.iload_n 3, 1) := dq_at (q := (4, .iload_n 3, 1)) dm_Ch_makeRoom_0 4 rfl
theorem dc_Ch_makeRoom_5 : decode cd_Ch_makeRoom 5 = .ok (.aload_n 0, 1) := dq_at (q := (5, .aload_n 0, 1)) dm_Ch_makeRoom_0 5 rfl
theorem dc_Ch_makeRoom_6 : decode cd_Ch_makeRoom 6 = .ok (.getfield 9, 3) := dq_at (q := (6, .getfield 9, 3)) dm_Ch_makeRoom_0 6 rfl
theorem dc_Ch_makeRoom_9 : decode cd_Ch_makeRoom 9 = .ok (.if_icmp .ge 41, 3) := dq_at (q := (9, .if_icmp .ge 41, 3)) dm_Ch_makeRoom_0 7 rfl
theorem dc_Ch_makeRoom_12 : decode cd_Ch_makeRoom 12 = .ok (.aload_n 1, 1) := dq_at (q := (12, .aload_n 1, 1)) dm_Ch_makeRoom_0 8 rfl
theorem dc_Ch_makeRoom_13 : decode cd_Ch_makeRoom 13 = .ok (.iload_n 3, 1) := dq_at (q := (13, .iload_n 3, 1)) dm_Ch_makeRoom_0 9 rfl
theorem dc_Ch_makeRoom_14 : decode cd_Ch_makeRoom 14 = .ok (.iaload, 1) := dq_at (q := (14, .iaload, 1)) dm_Ch_makeRoom_0 10 rfl
theorem dc_Ch_makeRoom_15 : decode cd_Ch_makeRoom 15 = .ok (.invokestatic 43, 3) := dq_at (q := (15, .invokestatic 43, 3)) dm_Ch_makeRoom_0 11 rfl
theorem dc_Ch_makeRoom_18 : decode cd_Ch_makeRoom 18 = .ok (.aload_n 1, 1) := dq_at (q := (18, .aload_n 1, 1)) dm_Ch_makeRoom_0 12 rfl
theorem dc_Ch_makeRoom_19 : decode cd_Ch_makeRoom 19 = .ok (.iload_n 2, 1) := dq_at (q := (19, .iload_n 2, 1)) dm_Ch_makeRoom_0 13 rfl
theorem dc_Ch_makeRoom_20 : decode cd_Ch_makeRoom 20 = .ok (.iaload, 1) := dq_at (q := (20, .iaload, 1)) dm_Ch_makeRoom_0 14 rfl
theorem dc_Ch_makeRoom_21 : decode cd_Ch_makeRoom 21 = .ok (.invokestatic 43, 3) := dq_at (q := (21, .invokestatic 43, 3)) dm_Ch_makeRoom_0 15 rfl
theorem dc_Ch_makeRoom_24 : decode cd_Ch_makeRoom 24 = .ok (.if_icmp .lt 20, 3) := dq_at (q := (24, .if_icmp .lt 20, 3)) dm_Ch_makeRoom_0 16 rfl
theorem dc_Ch_makeRoom_27 : decode cd_Ch_makeRoom 27 = .ok (.aload_n 1, 1) := dq_at (q := (27, .aload_n 1, 1)) dm_Ch_makeRoom_0 17 rfl
theorem dc_Ch_makeRoom_28 : decode cd_Ch_makeRoom 28 = .ok (.iload_n 3, 1) := dq_at (q := (28, .iload_n 3, 1)) dm_Ch_makeRoom_0 18 rfl
theorem dc_Ch_makeRoom_29 : decode cd_Ch_makeRoom 29 = .ok (.dup2, 1) := dq_at (q := (29, .dup2, 1)) dm_Ch_makeRoom_0 19 rfl
theorem dc_Ch_makeRoom_30 : decode cd_Ch_makeRoom 30 = .ok (.iaload, 1) := dq_at (q := (30, .iaload, 1)) dm_Ch_makeRoom_0 20 rfl
theorem dc_Ch_makeRoom_31 : decode cd_Ch_makeRoom 31 = .ok (.aload_n 1, 1) := dq_at (q := (31, .aload_n 1, 1)) dm_Ch_makeRoom_0 21 rfl
theorem dc_Ch_makeRoom_32 : decode cd_Ch_makeRoom 32 = .ok (.iload_n 3, 1) := dq_at (q := (32, .iload_n 3, 1)) dm_Ch_makeRoom_0 22 rfl
theorem dc_Ch_makeRoom_33 : decode cd_Ch_makeRoom 33 = .ok (.iaload, 1) := dq_at (q := (33, .iaload, 1)) dm_Ch_makeRoom_0 23 rfl
theorem dc_Ch_makeRoom_34 : decode cd_Ch_makeRoom 34 = .ok (.ifCond .le 7, 3) := dq_at (q := (34, .ifCond .le 7, 3)) dm_Ch_makeRoom_0 24 rfl
theorem dc_Ch_makeRoom_37 : decode cd_Ch_makeRoom 37 = .ok (.iconst 1, 1) := dq_at (q := (37, .iconst 1, 1)) dm_Ch_makeRoom_0 25 rfl
theorem dc_Ch_makeRoom_38 : decode cd_Ch_makeRoom 38 = .ok (.goto 4, 3) := dq_at (q := (38, .goto 4, 3)) dm_Ch_makeRoom_0 26 rfl
theorem dc_Ch_makeRoom_41 : decode cd_Ch_makeRoom 41 = .ok (.iconst (-1), 1) := dq_at (q := (41, .iconst (-1), 1)) dm_Ch_makeRoom_0 27 rfl
theorem dc_Ch_makeRoom_42 : decode cd_Ch_makeRoom 42 = .ok (.iadd, 1) := dq_at (q := (42, .iadd, 1)) dm_Ch_makeRoom_0 28 rfl
theorem dc_Ch_makeRoom_43 : decode cd_Ch_makeRoom 43 = .ok (.iastore, 1) := dq_at (q := (43, .iastore, 1)) dm_Ch_makeRoom_0 29 rfl
theorem dc_Ch_makeRoom_44 : decode cd_Ch_makeRoom 44 = .ok (.iinc 3 1, 3) := dq_at (q := (44, .iinc 3 1, 3)) dm_Ch_makeRoom_0 30 rfl
theorem dc_Ch_makeRoom_47 : decode cd_Ch_makeRoom 47 = .ok (.goto (-43), 3) := dq_at (q := (47, .goto (-43), 3)) dm_Ch_makeRoom_0 31 rfl
theorem dc_Ch_makeRoom_50 : decode cd_Ch_makeRoom 50 = .ok (.return_, 1) := dq_at (q := (50, .return_, 1)) dm_Ch_makeRoom_0 32 rfl
def dl_Ch_countAt_0 : List (Nat × Instr × Nat) := [(0, .iconst 0, 1), (1, .istore_n 2, 1), (2, .iconst 0, 1), (3, .istore_n 3, 1), (4, .iload_n 3, 1), (5, .aload_n 0, 1), (6, .getfield 15, 3), (9, .if_icmp .ge 22, 3), (12, .aload_n 0, 1), (13, .getfield 18, 3), (16, .iload_n 3, 1), (17, .iaload, 1), (18, .iload_n 1, 1), (19, .if_icmp .ne 6, 3), (22, .iinc 2 1, 3), (25, .iinc 3 1, 3), (28, .goto (-24), 3), (31, .iload_n 2, 1), (32, .ireturn, 1)]
theorem dm_Ch_countAt_0 : dl_Ch_countAt_0.all (fun q => decide (decode cd_Ch_countAt q.1 = .ok (q.2.1, q.2.2))) = true := by decide +kernel
theorem dc_Ch_countAt_0 : decode cd_Ch_countAt 0 = .ok (.iconst 0, 1) := dq_at (q := (0, .iconst 0, 1)) dm_Ch_countAt_0 0 rfl
theorem dc_Ch_countAt_1 : decode cd_Ch_countAt 1 = .ok (.istore_n 2, 1) := dq_at (q := (1, .istore_n 2, 1)) dm_Ch_countAt_0 1 rfl
theorem dc_Ch_countAt_2 : decode cd_Ch_countAt 2 = .ok (.iconst 0, 1) := dq_at (q := (2, .iconst 0, 1)) dm_Ch_countAt_0 2 rfl
theorem dc_Ch_countAt_3 : decode cd_Ch_countAt 3 = .ok (.istore_n 3, 1) := dq_at (q := (3, .istore_n 3, 1)) dm_Ch_countAt_0 3 rfl
theorem dc_Ch_countAt_4 : decode cd_Ch_countAt 4 = .ok (.iload_n 3, 1) := dq_at (q := (4, .iload_n 3, 1)) dm_Ch_countAt_0 4 rfl
theorem dc_Ch_countAt_5 : decode cd_Ch_countAt 5 = .ok (.aload_n 0, 1) := dq_at (q := (5, .aload_n 0, 1)) dm_Ch_countAt_0 5 rfl
theorem dc_Ch_countAt_6 : decode cd_Ch_countAt 6 = .ok (.getfield 15, 3) := dq_at (q := (6, .getfield 15, 3)) dm_Ch_countAt_0 6 rfl
theorem dc_Ch_countAt_9 : decode cd_Ch_countAt 9 = .ok (.if_icmp .ge 22, 3) := dq_at (q := (9, .if_icmp .ge 22, 3)) dm_Ch_countAt_0 7 rfl
theorem dc_Ch_countAt_12 : decode cd_Ch_countAt 12 = .ok (.aload_n 0, 1) := dq_at (q := (12, .aload_n 0, 1)) dm_Ch_countAt_0 8 rfl
theorem dc_Ch_countAt_13 : decode cd_Ch_countAt 13 = .ok (.getfield 18, 3) := dq_at (q := (13, .getfield 18, 3)) dm_Ch_countAt_0 9 rfl
theorem dc_Ch_countAt_16 : decode cd_Ch_countAt 16 = .ok (.iload_n 3, 1) := dq_at (q := (16, .iload_n 3, 1)) dm_Ch_countAt_0 10 rfl
theorem dc_Ch_countAt_17 : decode cd_Ch_countAt 17 = .ok (.iaload, 1) := dq_at (q := (17, .iaload, 1)) dm_Ch_countAt_0 11 rfl
theorem dc_Ch_countAt_18 : decode cd_Ch_countAt 18 = .ok (.iload_n 1, 1) := dq_at (q := (18, .iload_n 1, 1)) dm_Ch_countAt_0 12 rfl
theorem dc_Ch_countAt_19 : decode cd_Ch_countAt 19 = .ok (.if_icmp .ne 6, 3) := dq_at (q := (19, .if_icmp .ne 6, 3)) dm_Ch_countAt_0 13 rfl
theorem dc_Ch_countAt_22 : decode cd_Ch_countAt 22 = .ok (.iinc 2 1, 3) := dq_at (q := (22, .iinc 2 1, 3)) dm_Ch_countAt_0 14 rfl
theorem dc_Ch_countAt_25 : decode cd_Ch_countAt 25 = .ok (.iinc 3 1, 3) := dq_at (q := (25, .iinc 3 1, 3)) dm_Ch_countAt_0 15 rfl
theorem dc_Ch_countAt_28 : decode cd_Ch_countAt 28 = .ok (.goto (-24), 3) := dq_at (q := (28, .goto (-24), 3)) dm_Ch_countAt_0 16 rfl
theorem dc_Ch_countAt_31 : decode cd_Ch_countAt 31 = .ok (.iload_n 2, 1) := dq_at (q := (31, .iload_n 2, 1)) dm_Ch_countAt_0 17 rfl
theorem dc_Ch_countAt_32 : decode cd_Ch_countAt 32 = .ok (.ireturn, 1) := dq_at (q := (32, .ireturn, 1)) dm_Ch_countAt_0 18 rfl
def dl_Ch_waysToPlain_0 : List (Nat × Instr × Nat) := [(0, .aload_n 1, 1), (1, .iconst 0, 1), (2, .aload_n 0, 1), (3, .getfield 26, 3), (6, .iconst 0, 1), (7, .aload_n 0, 1), (8, .getfield 9, 3), (11, .invokestatic 52, 3), (14, .aload_n 0, 1), (15, .aload_n 0, 1), (16, .getfield 26, 3), (19, .invokevirtual 58, 3), (22, .istore_n 2, 1), (23, .aload_n 0, 1), (24, .iload_n 2, 1), (25, .aload_n 0, 1), (26, .getfield 18, 3), (29, .iload_n 2, 1), (30, .iaload, 1), (31, .invokevirtual 62, 3), (34, .lreturn, 1)]
theorem dm_Ch_waysToPlain_0 : dl_Ch_waysToPlain_0.all (fun q => decide (decode cd_Ch_waysToPlain q.1 = .ok (q.2.1, q.2.2))) = true := by decide +kernel
theorem dc_Ch_waysToPlain_0 : decode cd_Ch_waysToPlain 0 = .ok (.aload_n 1, 1) := dq_at (q := (0, .aload_n 1, 1)) dm_Ch_waysToPlain_0 0 rfl
theorem dc_Ch_waysToPlain_1 : decode cd_Ch_waysToPlain 1 = .ok (.iconst 0, 1) := dq_at (q := (1, .iconst 0, 1)) dm_Ch_waysToPlain_0 1 rfl
theorem dc_Ch_waysToPlain_2 : decode cd_Ch_waysToPlain 2 = .ok (.aload_n 0, 1) := dq_at (q := (2, .aload_n 0, 1)) dm_Ch_waysToPlain_0 2 rfl
theorem dc_Ch_waysToPlain_3 : decode cd_Ch_waysToPlain 3 = .ok (.getfield 26, 3) := dq_at (q := (3, .getfield 26, 3)) dm_Ch_waysToPlain_0 3 rfl
theorem dc_Ch_waysToPlain_6 : decode cd_Ch_waysToPlain 6 = .ok (.iconst 0, 1) := dq_at (q := (6, .iconst 0, 1)) dm_Ch_waysToPlain_0 4 rfl
theorem dc_Ch_waysToPlain_7 : decode cd_Ch_waysToPlain 7 = .ok (.aload_n 0, 1) := dq_at (q := (7, .aload_n 0, 1)) dm_Ch_waysToPlain_0 5 rfl
theorem dc_Ch_waysToPlain_8 : decode cd_Ch_waysToPlain 8 = .ok (.getfield 9, 3) := dq_at (q := (8, .getfield 9, 3)) dm_Ch_waysToPlain_0 6 rfl
theorem dc_Ch_waysToPlain_11 : decode cd_Ch_waysToPlain 11 = .ok (.invokestatic 52, 3) := dq_at (q := (11, .invokestatic 52, 3)) dm_Ch_waysToPlain_0 7 rfl
theorem dc_Ch_waysToPlain_14 : decode cd_Ch_waysToPlain 14 = .ok (.aload_n 0, 1) := dq_at (q := (14, .aload_n 0, 1)) dm_Ch_waysToPlain_0 8 rfl
theorem dc_Ch_waysToPlain_15 : decode cd_Ch_waysToPlain 15 = .ok (.aload_n 0, 1) := dq_at (q := (15, .aload_n 0, 1)) dm_Ch_waysToPlain_0 9 rfl
theorem dc_Ch_waysToPlain_16 : decode cd_Ch_waysToPlain 16 = .ok (.getfield 26, 3) := dq_at (q := (16, .getfield 26, 3)) dm_Ch_waysToPlain_0 10 rfl
theorem dc_Ch_waysToPlain_19 : decode cd_Ch_waysToPlain 19 = .ok (.invokevirtual 58, 3) := dq_at (q := (19, .invokevirtual 58, 3)) dm_Ch_waysToPlain_0 11 rfl
theorem dc_Ch_waysToPlain_22 : decode cd_Ch_waysToPlain 22 = .ok (.istore_n 2, 1) := dq_at (q := (22, .istore_n 2, 1)) dm_Ch_waysToPlain_0 12 rfl
theorem dc_Ch_waysToPlain_23 : decode cd_Ch_waysToPlain 23 = .ok (.aload_n 0, 1) := dq_at (q := (23, .aload_n 0, 1)) dm_Ch_waysToPlain_0 13 rfl
theorem dc_Ch_waysToPlain_24 : decode cd_Ch_waysToPlain 24 = .ok (.iload_n 2, 1) := dq_at (q := (24, .iload_n 2, 1)) dm_Ch_waysToPlain_0 14 rfl
theorem dc_Ch_waysToPlain_25 : decode cd_Ch_waysToPlain 25 = .ok (.aload_n 0, 1) := dq_at (q := (25, .aload_n 0, 1)) dm_Ch_waysToPlain_0 15 rfl
theorem dc_Ch_waysToPlain_26 : decode cd_Ch_waysToPlain 26 = .ok (.getfield 18, 3) := dq_at (q := (26, .getfield 18, 3)) dm_Ch_waysToPlain_0 16 rfl
theorem dc_Ch_waysToPlain_29 : decode cd_Ch_waysToPlain 29 = .ok (.iload_n 2, 1) := dq_at (q := (29, .iload_n 2, 1)) dm_Ch_waysToPlain_0 17 rfl
theorem dc_Ch_waysToPlain_30 : decode cd_Ch_waysToPlain 30 = .ok (.iaload, 1) := dq_at (q := (30, .iaload, 1)) dm_Ch_waysToPlain_0 18 rfl
theorem dc_Ch_waysToPlain_31 : decode cd_Ch_waysToPlain 31 = .ok (.invokevirtual 62, 3) := dq_at (q := (31, .invokevirtual 62, 3)) dm_Ch_waysToPlain_0 19 rfl
theorem dc_Ch_waysToPlain_34 : decode cd_Ch_waysToPlain 34 = .ok (.lreturn, 1) := dq_at (q := (34, .lreturn, 1)) dm_Ch_waysToPlain_0 20 rfl
def dl_Ch_waysOfWalked_0 : List (Nat × Instr × Nat) := [(0, .iload_n 2, 1), (1, .ifCond .gt 5, 3), (4, .lconst 1, 1), (5, .lreturn, 1), (6, .aload_n 0, 1), (7, .getfield 22, 3), (10, .iload_n 1, 1), (11, .laload, 1), (12, .lconst 0, 1), (13, .lcmp, 1), (14, .ifCond .ne 106, 3), (17, .lconst 0, 1), (18, .lstore_n 3, 1), (19, .iconst 0, 1), (20, .istore 5, 2), (22, .iload 5, 2), (24, .aload_n 0, 1), (25, .getfield 9, 3), (28, .if_icmp .ge 85, 3), (31, .iload 5, 2), (33, .istore 6, 2), (35, .iload 6, 2), (37, .aload_n 0, 1), (38, .getfield 9, 3), (41, .if_icmp .ge 66, 3), (44, .aload_n 0, 1), (45, .getfield 26, 3), (48, .iload 5, 2), (50, .iload 6, 2), (52, .invokestatic 66, 3), (55, .aload_n 0, 1), (56, .aload_n 0, 1), (57, .getfield 26, 3), (60, .invokevirtual 58, 3), (63, .istore 7, 2), (65, .aload_n 0, 1), (66, .getfield 18, 3), (69, .iload 7, 2), (71, .iaload, 1), (72, .iload_n 2, 1), (73, .iconst 1, 1), (74, .isub, 1), (75, .if_icmp .ne 15, 3), (78, .lload_n 3, 1), (79, .aload_n 0, 1), (80, .iload 7, 2), (82, .iload_n 2, 1), (83, .iconst 1, 1), (84, .isub, 1), (85, .invokevirtual 62, 3), (88, .ladd, 1), (89, .lstore_n 3, 1), (90, .aload_n 0, 1), (91, .getfield 26, 3), (94, .iload 5, 2), (96, .iload 6, 2), (98, .invokestatic 66, 3), (101, .iinc 6 1, 3), (104, .goto (-69), 3), (107, .iinc 5 1, 3)]
theorem dm_Ch_waysOfWalked_0 : dl_Ch_waysOfWalked_0.all (fun q => decide (decode cd_Ch_waysOfWalked q.1 = .ok (q.2.1, q.2.2))) = true := by decide +kernel
theorem dc_Ch_waysOfWalked_0 : decode cd_Ch_waysOfWalked 0 = .ok (.iload_n 2, 1) := dq_at (q := (0, .iload_n 2, 1)) dm_Ch_waysOfWalked_0 0 rfl
theorem dc_Ch_waysOfWalked_1 : decode cd_Ch_waysOfWalked 1 = .ok (.ifCond .gt 5, 3) := dq_at (q := (1, .ifCond .gt 5, 3)) dm_Ch_waysOfWalked_0 1 rfl
theorem dc_Ch_waysOfWalked_4 : decode cd_Ch_waysOfWalked 4 = .ok (.lconst 1, 1) := dq_at (q := (4, .lconst 1, 1)) dm_Ch_waysOfWalked_0 2 rfl
theorem dc_Ch_waysOfWalked_5 : decode cd_Ch_waysOfWalked 5 = .ok (.lreturn, 1) := dq_at (q := (5, .lreturn, 1)) dm_Ch_waysOfWalked_0 3 rfl
theorem dc_Ch_waysOfWalked_6 : decode cd_Ch_waysOfWalked 6 = .ok (.aload_n 0, 1) := dq_at (q := (6, .aload_n 0, 1)) dm_Ch_waysOfWalked_0 4 rfl
theorem dc_Ch_waysOfWalked_7 : decode cd_Ch_waysOfWalked 7 = .ok (.getfield 22, 3) := dq_at (q := (7, .getfield 22, 3)) dm_Ch_waysOfWalked_0 5 rfl
theorem dc_Ch_waysOfWalked_10 : decode cd_Ch_waysOfWalked 10 = .ok (.iload_n 1, 1) := dq_at (q := (10, .iload_n 1, 1)) dm_Ch_waysOfWalked_0 6 rfl
theorem dc_Ch_waysOfWalked_11 : decode cd_Ch_waysOfWalked 11 = .ok (.laload, 1) := dq_at (q := (11, .laload, 1)) dm_Ch_waysOfWalked_0 7 rfl
theorem dc_Ch_waysOfWalked_12 : decode cd_Ch_waysOfWalked 12 = .ok (.lconst 0, 1) := dq_at (q := (12, .lconst 0, 1)) dm_Ch_waysOfWalked_0 8 rfl
theorem dc_Ch_waysOfWalked_13 : decode cd_Ch_waysOfWalked 13 = .ok (.lcmp, 1) := dq_at (q := (13, .lcmp, 1)) dm_Ch_waysOfWalked_0 9 rfl
theorem dc_Ch_waysOfWalked_14 : decode cd_Ch_waysOfWalked 14 = .ok (.ifCond .ne 106, 3) := dq_at (q := (14, .ifCond .ne 106, 3)) dm_Ch_waysOfWalked_0 10 rfl
theorem dc_Ch_waysOfWalked_17 : decode cd_Ch_waysOfWalked 17 = .ok (.lconst 0, 1) := dq_at (q := (17, .lconst 0, 1)) dm_Ch_waysOfWalked_0 11 rfl
theorem dc_Ch_waysOfWalked_18 : decode cd_Ch_waysOfWalked 18 = .ok (.lstore_n 3, 1) := dq_at (q := (18, .lstore_n 3, 1)) dm_Ch_waysOfWalked_0 12 rfl
theorem dc_Ch_waysOfWalked_19 : decode cd_Ch_waysOfWalked 19 = .ok (.iconst 0, 1) := dq_at (q := (19, .iconst 0, 1)) dm_Ch_waysOfWalked_0 13 rfl
theorem dc_Ch_waysOfWalked_20 : decode cd_Ch_waysOfWalked 20 = .ok (.istore 5, 2) := dq_at (q := (20, .istore 5, 2)) dm_Ch_waysOfWalked_0 14 rfl
theorem dc_Ch_waysOfWalked_22 : decode cd_Ch_waysOfWalked 22 = .ok (.iload 5, 2) := dq_at (q := (22, .iload 5, 2)) dm_Ch_waysOfWalked_0 15 rfl
theorem dc_Ch_waysOfWalked_24 : decode cd_Ch_waysOfWalked 24 = .ok (.aload_n 0, 1) := dq_at (q := (24, .aload_n 0, 1)) dm_Ch_waysOfWalked_0 16 rfl
theorem dc_Ch_waysOfWalked_25 : decode cd_Ch_waysOfWalked 25 = .ok (.getfield 9, 3) := dq_at (q := (25, .getfield 9, 3)) dm_Ch_waysOfWalked_0 17 rfl
theorem dc_Ch_waysOfWalked_28 : decode cd_Ch_waysOfWalked 28 = .ok (.if_icmp .ge 85, 3) := dq_at (q := (28, .if_icmp .ge 85, 3)) dm_Ch_waysOfWalked_0 18 rfl
theorem dc_Ch_waysOfWalked_31 : decode cd_Ch_waysOfWalked 31 = .ok (.iload 5, 2) := dq_at (q := (31, .iload 5, 2)) dm_Ch_waysOfWalked_0 19 rfl
theorem dc_Ch_waysOfWalked_33 : decode cd_Ch_waysOfWalked 33 = .ok (.istore 6, 2) := dq_at (q := (33, .istore 6, 2)) dm_Ch_waysOfWalked_0 20 rfl
theorem dc_Ch_waysOfWalked_35 : decode cd_Ch_waysOfWalked 35 = .ok (.iload 6, 2) := dq_at (q := (35, .iload 6, 2)) dm_Ch_waysOfWalked_0 21 rfl
theorem dc_Ch_waysOfWalked_37 : decode cd_Ch_waysOfWalked 37 = .ok (.aload_n 0, 1) := dq_at (q := (37, .aload_n 0, 1)) dm_Ch_waysOfWalked_0 22 rfl
theorem dc_Ch_waysOfWalked_38 : decode cd_Ch_waysOfWalked 38 = .ok (.getfield 9, 3) := dq_at (q := (38, .getfield 9, 3)) dm_Ch_waysOfWalked_0 23 rfl
theorem dc_Ch_waysOfWalked_41 : decode cd_Ch_waysOfWalked 41 = .ok (.if_icmp .ge 66, 3) := dq_at (q := (41, .if_icmp .ge 66, 3)) dm_Ch_waysOfWalked_0 24 rfl
theorem dc_Ch_waysOfWalked_44 : decode cd_Ch_waysOfWalked 44 = .ok (.aload_n 0, 1) := dq_at (q := (44, .aload_n 0, 1)) dm_Ch_waysOfWalked_0 25 rfl
theorem dc_Ch_waysOfWalked_45 : decode cd_Ch_waysOfWalked 45 = .ok (.getfield 26, 3) := dq_at (q := (45, .getfield 26, 3)) dm_Ch_waysOfWalked_0 26 rfl
theorem dc_Ch_waysOfWalked_48 : decode cd_Ch_waysOfWalked 48 = .ok (.iload 5, 2) := dq_at (q := (48, .iload 5, 2)) dm_Ch_waysOfWalked_0 27 rfl
theorem dc_Ch_waysOfWalked_50 : decode cd_Ch_waysOfWalked 50 = .ok (.iload 6, 2) := dq_at (q := (50, .iload 6, 2)) dm_Ch_waysOfWalked_0 28 rfl
theorem dc_Ch_waysOfWalked_52 : decode cd_Ch_waysOfWalked 52 = .ok (.invokestatic 66, 3) := dq_at (q := (52, .invokestatic 66, 3)) dm_Ch_waysOfWalked_0 29 rfl
theorem dc_Ch_waysOfWalked_55 : decode cd_Ch_waysOfWalked 55 = .ok (.aload_n 0, 1) := dq_at (q := (55, .aload_n 0, 1)) dm_Ch_waysOfWalked_0 30 rfl
theorem dc_Ch_waysOfWalked_56 : decode cd_Ch_waysOfWalked 56 = .ok (.aload_n 0, 1) := dq_at (q := (56, .aload_n 0, 1)) dm_Ch_waysOfWalked_0 31 rfl
theorem dc_Ch_waysOfWalked_57 : decode cd_Ch_waysOfWalked 57 = .ok (.getfield 26, 3) := dq_at (q := (57, .getfield 26, 3)) dm_Ch_waysOfWalked_0 32 rfl
theorem dc_Ch_waysOfWalked_60 : decode cd_Ch_waysOfWalked 60 = .ok (.invokevirtual 58, 3) := dq_at (q := (60, .invokevirtual 58, 3)) dm_Ch_waysOfWalked_0 33 rfl
theorem dc_Ch_waysOfWalked_63 : decode cd_Ch_waysOfWalked 63 = .ok (.istore 7, 2) := dq_at (q := (63, .istore 7, 2)) dm_Ch_waysOfWalked_0 34 rfl
theorem dc_Ch_waysOfWalked_65 : decode cd_Ch_waysOfWalked 65 = .ok (.aload_n 0, 1) := dq_at (q := (65, .aload_n 0, 1)) dm_Ch_waysOfWalked_0 35 rfl
theorem dc_Ch_waysOfWalked_66 : decode cd_Ch_waysOfWalked 66 = .ok (.getfield 18, 3) := dq_at (q := (66, .getfield 18, 3)) dm_Ch_waysOfWalked_0 36 rfl
theorem dc_Ch_waysOfWalked_69 : decode cd_Ch_waysOfWalked 69 = .ok (.iload 7, 2) := dq_at (q := (69, .iload 7, 2)) dm_Ch_waysOfWalked_0 37 rfl
theorem dc_Ch_waysOfWalked_71 : decode cd_Ch_waysOfWalked 71 = .ok (.iaload, 1) := dq_at (q := (71, .iaload, 1)) dm_Ch_waysOfWalked_0 38 rfl
theorem dc_Ch_waysOfWalked_72 : decode cd_Ch_waysOfWalked 72 = .ok (.iload_n 2, 1) := dq_at (q := (72, .iload_n 2, 1)) dm_Ch_waysOfWalked_0 39 rfl
theorem dc_Ch_waysOfWalked_73 : decode cd_Ch_waysOfWalked 73 = .ok (.iconst 1, 1) := dq_at (q := (73, .iconst 1, 1)) dm_Ch_waysOfWalked_0 40 rfl
theorem dc_Ch_waysOfWalked_74 : decode cd_Ch_waysOfWalked 74 = .ok (.isub, 1) := dq_at (q := (74, .isub, 1)) dm_Ch_waysOfWalked_0 41 rfl
theorem dc_Ch_waysOfWalked_75 : decode cd_Ch_waysOfWalked 75 = .ok (.if_icmp .ne 15, 3) := dq_at (q := (75, .if_icmp .ne 15, 3)) dm_Ch_waysOfWalked_0 42 rfl
theorem dc_Ch_waysOfWalked_78 : decode cd_Ch_waysOfWalked 78 = .ok (.lload_n 3, 1) := dq_at (q := (78, .lload_n 3, 1)) dm_Ch_waysOfWalked_0 43 rfl
theorem dc_Ch_waysOfWalked_79 : decode cd_Ch_waysOfWalked 79 = .ok (.aload_n 0, 1) := dq_at (q := (79, .aload_n 0, 1)) dm_Ch_waysOfWalked_0 44 rfl
theorem dc_Ch_waysOfWalked_80 : decode cd_Ch_waysOfWalked 80 = .ok (.iload 7, 2) := dq_at (q := (80, .iload 7, 2)) dm_Ch_waysOfWalked_0 45 rfl
theorem dc_Ch_waysOfWalked_82 : decode cd_Ch_waysOfWalked 82 = .ok (.iload_n 2, 1) := dq_at (q := (82, .iload_n 2, 1)) dm_Ch_waysOfWalked_0 46 rfl
theorem dc_Ch_waysOfWalked_83 : decode cd_Ch_waysOfWalked 83 = .ok (.iconst 1, 1) := dq_at (q := (83, .iconst 1, 1)) dm_Ch_waysOfWalked_0 47 rfl
theorem dc_Ch_waysOfWalked_84 : decode cd_Ch_waysOfWalked 84 = .ok (.isub, 1) := dq_at (q := (84, .isub, 1)) dm_Ch_waysOfWalked_0 48 rfl
theorem dc_Ch_waysOfWalked_85 : decode cd_Ch_waysOfWalked 85 = .ok (.invokevirtual 62, 3) := dq_at (q := (85, .invokevirtual 62, 3)) dm_Ch_waysOfWalked_0 49 rfl
theorem dc_Ch_waysOfWalked_88 : decode cd_Ch_waysOfWalked 88 = .ok (.ladd, 1) := dq_at (q := (88, .ladd, 1)) dm_Ch_waysOfWalked_0 50 rfl
theorem dc_Ch_waysOfWalked_89 : decode cd_Ch_waysOfWalked 89 = .ok (.lstore_n 3, 1) := dq_at (q := (89, .lstore_n 3, 1)) dm_Ch_waysOfWalked_0 51 rfl
theorem dc_Ch_waysOfWalked_90 : decode cd_Ch_waysOfWalked 90 = .ok (.aload_n 0, 1) := dq_at (q := (90, .aload_n 0, 1)) dm_Ch_waysOfWalked_0 52 rfl
theorem dc_Ch_waysOfWalked_91 : decode cd_Ch_waysOfWalked 91 = .ok (.getfield 26, 3) := dq_at (q := (91, .getfield 26, 3)) dm_Ch_waysOfWalked_0 53 rfl
theorem dc_Ch_waysOfWalked_94 : decode cd_Ch_waysOfWalked 94 = .ok (.iload 5, 2) := dq_at (q := (94, .iload 5, 2)) dm_Ch_waysOfWalked_0 54 rfl
theorem dc_Ch_waysOfWalked_96 : decode cd_Ch_waysOfWalked 96 = .ok (.iload 6, 2) := dq_at (q := (96, .iload 6, 2)) dm_Ch_waysOfWalked_0 55 rfl
theorem dc_Ch_waysOfWalked_98 : decode cd_Ch_waysOfWalked 98 = .ok (.invokestatic 66, 3) := dq_at (q := (98, .invokestatic 66, 3)) dm_Ch_waysOfWalked_0 56 rfl
theorem dc_Ch_waysOfWalked_101 : decode cd_Ch_waysOfWalked 101 = .ok (.iinc 6 1, 3) := dq_at (q := (101, .iinc 6 1, 3)) dm_Ch_waysOfWalked_0 57 rfl
theorem dc_Ch_waysOfWalked_104 : decode cd_Ch_waysOfWalked 104 = .ok (.goto (-69), 3) := dq_at (q := (104, .goto (-69), 3)) dm_Ch_waysOfWalked_0 58 rfl
theorem dc_Ch_waysOfWalked_107 : decode cd_Ch_waysOfWalked 107 = .ok (.iinc 5 1, 3) := dq_at (q := (107, .iinc 5 1, 3)) dm_Ch_waysOfWalked_0 59 rfl
def dl_Ch_waysOfWalked_60 : List (Nat × Instr × Nat) := [(110, .goto (-88), 3), (113, .aload_n 0, 1), (114, .getfield 22, 3), (117, .iload_n 1, 1), (118, .lload_n 3, 1), (119, .lastore, 1), (120, .aload_n 0, 1), (121, .getfield 22, 3), (124, .iload_n 1, 1), (125, .laload, 1), (126, .lreturn, 1)]
theorem dm_Ch_waysOfWalked_60 : dl_Ch_waysOfWalked_60.all (fun q => decide (decode cd_Ch_waysOfWalked q.1 = .ok (q.2.1, q.2.2))) = true := by decide +kernel
theorem dc_Ch_waysOfWalked_110 : decode cd_Ch_waysOfWalked 110 = .ok (.goto (-88), 3) := dq_at (q := (110, .goto (-88), 3)) dm_Ch_waysOfWalked_60 0 rfl
theorem dc_Ch_waysOfWalked_113 : decode cd_Ch_waysOfWalked 113 = .ok (.aload_n 0, 1) := dq_at (q := (113, .aload_n 0, 1)) dm_Ch_waysOfWalked_60 1 rfl
theorem dc_Ch_waysOfWalked_114 : decode cd_Ch_waysOfWalked 114 = .ok (.getfield 22, 3) := dq_at (q := (114, .getfield 22, 3)) dm_Ch_waysOfWalked_60 2 rfl
theorem dc_Ch_waysOfWalked_117 : decode cd_Ch_waysOfWalked 117 = .ok (.iload_n 1, 1) := dq_at (q := (117, .iload_n 1, 1)) dm_Ch_waysOfWalked_60 3 rfl
theorem dc_Ch_waysOfWalked_118 : decode cd_Ch_waysOfWalked 118 = .ok (.lload_n 3, 1) := dq_at (q := (118, .lload_n 3, 1)) dm_Ch_waysOfWalked_60 4 rfl
theorem dc_Ch_waysOfWalked_119 : decode cd_Ch_waysOfWalked 119 = .ok (.lastore, 1) := dq_at (q := (119, .lastore, 1)) dm_Ch_waysOfWalked_60 5 rfl
theorem dc_Ch_waysOfWalked_120 : decode cd_Ch_waysOfWalked 120 = .ok (.aload_n 0, 1) := dq_at (q := (120, .aload_n 0, 1)) dm_Ch_waysOfWalked_60 6 rfl
theorem dc_Ch_waysOfWalked_121 : decode cd_Ch_waysOfWalked 121 = .ok (.getfield 22, 3) := dq_at (q := (121, .getfield 22, 3)) dm_Ch_waysOfWalked_60 7 rfl
theorem dc_Ch_waysOfWalked_124 : decode cd_Ch_waysOfWalked 124 = .ok (.iload_n 1, 1) := dq_at (q := (124, .iload_n 1, 1)) dm_Ch_waysOfWalked_60 8 rfl
theorem dc_Ch_waysOfWalked_125 : decode cd_Ch_waysOfWalked 125 = .ok (.laload, 1) := dq_at (q := (125, .laload, 1)) dm_Ch_waysOfWalked_60 9 rfl
theorem dc_Ch_waysOfWalked_126 : decode cd_Ch_waysOfWalked 126 = .ok (.lreturn, 1) := dq_at (q := (126, .lreturn, 1)) dm_Ch_waysOfWalked_60 10 rfl
def dl_Dr_init_0 : List (Nat × Instr × Nat) := [(0, .aload_n 0, 1), (1, .invokespecial 3, 3), (4, .aload_n 0, 1), (5, .bipush 7, 2), (7, .newarray .int, 2), (9, .putfield 11, 3), (12, .aload_n 0, 1), (13, .bipush 7, 2), (15, .newarray .int, 2), (17, .putfield 15, 3), (20, .aload_n 0, 1), (21, .bipush 8, 2), (23, .newarray .int, 2), (25, .putfield 18, 3), (28, .aload_n 0, 1), (29, .bipush 14, 2), (31, .newarray .int, 2), (33, .putfield 21, 3), (36, .aload_n 0, 1), (37, .bipush 14, 2), (39, .newarray .int, 2), (41, .putfield 24, 3), (44, .aload_n 0, 1), (45, .bipush 14, 2), (47, .newarray .boolean, 2), (49, .putfield 27, 3), (52, .aload_n 0, 1), (53, .bipush 7, 2), (55, .newarray .int, 2), (57, .putfield 31, 3), (60, .aload_n 0, 1), (61, .bipush 7, 2), (63, .newarray .boolean, 2), (65, .putfield 34, 3), (68, .aload_n 0, 1), (69, .bipush 14, 2), (71, .newarray .int, 2), (73, .putfield 37, 3), (76, .return_, 1)]
theorem dm_Dr_init_0 : dl_Dr_init_0.all (fun q => decide (decode cd_Dr_init q.1 = .ok (q.2.1, q.2.2))) = true := by decide +kernel
theorem dc_Dr_init_0 : decode cd_Dr_init 0 = .ok (.aload_n 0, 1) := dq_at (q := (0, .aload_n 0, 1)) dm_Dr_init_0 0 rfl
theorem dc_Dr_init_1 : decode cd_Dr_init 1 = .ok (.invokespecial 3, 3) := dq_at (q := (1, .invokespecial 3, 3)) dm_Dr_init_0 1 rfl
theorem dc_Dr_init_4 : decode cd_Dr_init 4 = .ok (.aload_n 0, 1) := dq_at (q := (4, .aload_n 0, 1)) dm_Dr_init_0 2 rfl
theorem dc_Dr_init_5 : decode cd_Dr_init 5 = .ok (.bipush 7, 2) := dq_at (q := (5, .bipush 7, 2)) dm_Dr_init_0 3 rfl
theorem dc_Dr_init_7 : decode cd_Dr_init 7 = .ok (.newarray .int, 2) := dq_at (q := (7, .newarray .int, 2)) dm_Dr_init_0 4 rfl
theorem dc_Dr_init_9 : decode cd_Dr_init 9 = .ok (.putfield 11, 3) := dq_at (q := (9, .putfield 11, 3)) dm_Dr_init_0 5 rfl
theorem dc_Dr_init_12 : decode cd_Dr_init 12 = .ok (.aload_n 0, 1) := dq_at (q := (12, .aload_n 0, 1)) dm_Dr_init_0 6 rfl
theorem dc_Dr_init_13 : decode cd_Dr_init 13 = .ok (.bipush 7, 2) := dq_at (q := (13, .bipush 7, 2)) dm_Dr_init_0 7 rfl
theorem dc_Dr_init_15 : decode cd_Dr_init 15 = .ok (.newarray .int, 2) := dq_at (q := (15, .newarray .int, 2)) dm_Dr_init_0 8 rfl
theorem dc_Dr_init_17 : decode cd_Dr_init 17 = .ok (.putfield 15, 3) := dq_at (q := (17, .putfield 15, 3)) dm_Dr_init_0 9 rfl
theorem dc_Dr_init_20 : decode cd_Dr_init 20 = .ok (.aload_n 0, 1) := dq_at (q := (20, .aload_n 0, 1)) dm_Dr_init_0 10 rfl
theorem dc_Dr_init_21 : decode cd_Dr_init 21 = .ok (.bipush 8, 2) := dq_at (q := (21, .bipush 8, 2)) dm_Dr_init_0 11 rfl
theorem dc_Dr_init_23 : decode cd_Dr_init 23 = .ok (.newarray .int, 2) := dq_at (q := (23, .newarray .int, 2)) dm_Dr_init_0 12 rfl
theorem dc_Dr_init_25 : decode cd_Dr_init 25 = .ok (.putfield 18, 3) := dq_at (q := (25, .putfield 18, 3)) dm_Dr_init_0 13 rfl
theorem dc_Dr_init_28 : decode cd_Dr_init 28 = .ok (.aload_n 0, 1) := dq_at (q := (28, .aload_n 0, 1)) dm_Dr_init_0 14 rfl
theorem dc_Dr_init_29 : decode cd_Dr_init 29 = .ok (.bipush 14, 2) := dq_at (q := (29, .bipush 14, 2)) dm_Dr_init_0 15 rfl
theorem dc_Dr_init_31 : decode cd_Dr_init 31 = .ok (.newarray .int, 2) := dq_at (q := (31, .newarray .int, 2)) dm_Dr_init_0 16 rfl
theorem dc_Dr_init_33 : decode cd_Dr_init 33 = .ok (.putfield 21, 3) := dq_at (q := (33, .putfield 21, 3)) dm_Dr_init_0 17 rfl
theorem dc_Dr_init_36 : decode cd_Dr_init 36 = .ok (.aload_n 0, 1) := dq_at (q := (36, .aload_n 0, 1)) dm_Dr_init_0 18 rfl
theorem dc_Dr_init_37 : decode cd_Dr_init 37 = .ok (.bipush 14, 2) := dq_at (q := (37, .bipush 14, 2)) dm_Dr_init_0 19 rfl
theorem dc_Dr_init_39 : decode cd_Dr_init 39 = .ok (.newarray .int, 2) := dq_at (q := (39, .newarray .int, 2)) dm_Dr_init_0 20 rfl
theorem dc_Dr_init_41 : decode cd_Dr_init 41 = .ok (.putfield 24, 3) := dq_at (q := (41, .putfield 24, 3)) dm_Dr_init_0 21 rfl
theorem dc_Dr_init_44 : decode cd_Dr_init 44 = .ok (.aload_n 0, 1) := dq_at (q := (44, .aload_n 0, 1)) dm_Dr_init_0 22 rfl
theorem dc_Dr_init_45 : decode cd_Dr_init 45 = .ok (.bipush 14, 2) := dq_at (q := (45, .bipush 14, 2)) dm_Dr_init_0 23 rfl
theorem dc_Dr_init_47 : decode cd_Dr_init 47 = .ok (.newarray .boolean, 2) := dq_at (q := (47, .newarray .boolean, 2)) dm_Dr_init_0 24 rfl
theorem dc_Dr_init_49 : decode cd_Dr_init 49 = .ok (.putfield 27, 3) := dq_at (q := (49, .putfield 27, 3)) dm_Dr_init_0 25 rfl
theorem dc_Dr_init_52 : decode cd_Dr_init 52 = .ok (.aload_n 0, 1) := dq_at (q := (52, .aload_n 0, 1)) dm_Dr_init_0 26 rfl
theorem dc_Dr_init_53 : decode cd_Dr_init 53 = .ok (.bipush 7, 2) := dq_at (q := (53, .bipush 7, 2)) dm_Dr_init_0 27 rfl
theorem dc_Dr_init_55 : decode cd_Dr_init 55 = .ok (.newarray .int, 2) := dq_at (q := (55, .newarray .int, 2)) dm_Dr_init_0 28 rfl
theorem dc_Dr_init_57 : decode cd_Dr_init 57 = .ok (.putfield 31, 3) := dq_at (q := (57, .putfield 31, 3)) dm_Dr_init_0 29 rfl
theorem dc_Dr_init_60 : decode cd_Dr_init 60 = .ok (.aload_n 0, 1) := dq_at (q := (60, .aload_n 0, 1)) dm_Dr_init_0 30 rfl
theorem dc_Dr_init_61 : decode cd_Dr_init 61 = .ok (.bipush 7, 2) := dq_at (q := (61, .bipush 7, 2)) dm_Dr_init_0 31 rfl
theorem dc_Dr_init_63 : decode cd_Dr_init 63 = .ok (.newarray .boolean, 2) := dq_at (q := (63, .newarray .boolean, 2)) dm_Dr_init_0 32 rfl
theorem dc_Dr_init_65 : decode cd_Dr_init 65 = .ok (.putfield 34, 3) := dq_at (q := (65, .putfield 34, 3)) dm_Dr_init_0 33 rfl
theorem dc_Dr_init_68 : decode cd_Dr_init 68 = .ok (.aload_n 0, 1) := dq_at (q := (68, .aload_n 0, 1)) dm_Dr_init_0 34 rfl
theorem dc_Dr_init_69 : decode cd_Dr_init 69 = .ok (.bipush 14, 2) := dq_at (q := (69, .bipush 14, 2)) dm_Dr_init_0 35 rfl
theorem dc_Dr_init_71 : decode cd_Dr_init 71 = .ok (.newarray .int, 2) := dq_at (q := (71, .newarray .int, 2)) dm_Dr_init_0 36 rfl
theorem dc_Dr_init_73 : decode cd_Dr_init 73 = .ok (.putfield 37, 3) := dq_at (q := (73, .putfield 37, 3)) dm_Dr_init_0 37 rfl
theorem dc_Dr_init_76 : decode cd_Dr_init 76 = .ok (.return_, 1) := dq_at (q := (76, .return_, 1)) dm_Dr_init_0 38 rfl
def dl_Dr_draw_0 : List (Nat × Instr × Nat) := [(0, .aload_n 0, 1), (1, .iload_n 2, 1), (2, .iconst 1, 1), (3, .iadd, 1), (4, .putfield 40, 3), (7, .aload_n 0, 1), (8, .iconst 2, 1), (9, .iload_n 2, 1), (10, .imul, 1), (11, .iconst 2, 1), (12, .iadd, 1), (13, .putfield 44, 3), (16, .aload_n 0, 1), (17, .getfield 18, 3), (20, .iconst 0, 1), (21, .iconst 0, 1), (22, .iastore, 1), (23, .aload_n 0, 1), (24, .getfield 18, 3), (27, .iload_n 2, 1), (28, .iconst 1, 1), (29, .iadd, 1), (30, .iload_n 2, 1), (31, .iconst 1, 1), (32, .iadd, 1), (33, .iastore, 1), (34, .aload_n 0, 1), (35, .iconst 0, 1), (36, .iconst 0, 1), (37, .invokevirtual 47, 3), (40, .aload_n 0, 1), (41, .iconst 2, 1), (42, .iload_n 2, 1), (43, .imul, 1), (44, .iconst 1, 1), (45, .iadd, 1), (46, .iconst 2, 1), (47, .iload_n 2, 1), (48, .imul, 1), (49, .iconst 1, 1), (50, .iadd, 1), (51, .invokevirtual 47, 3), (54, .iconst 0, 1), (55, .istore_n 3, 1), (56, .iload_n 3, 1), (57, .iload_n 2, 1), (58, .if_icmp .ge 80, 3), (61, .aload_n 1, 1), (62, .iload_n 3, 1), (63, .iaload, 1), (64, .istore 4, 2), (66, .aload_n 0, 1), (67, .getfield 18, 3), (70, .iload_n 3, 1), (71, .iconst 1, 1), (72, .iadd, 1), (73, .iload 4, 2), (75, .iastore, 1), (76, .aload_n 0, 1), (77, .iload 4, 2)]
theorem dm_Dr_draw_0 : dl_Dr_draw_0.all (fun q => decide (decode cd_Dr_draw q.1 = .ok (q.2.1, q.2.2))) = true := by decide +kernel
theorem dc_Dr_draw_0 : decode cd_Dr_draw 0 = .ok (.aload_n 0, 1) := dq_at (q := (0, .aload_n 0, 1)) dm_Dr_draw_0 0 rfl
theorem dc_Dr_draw_1 : decode cd_Dr_draw 1 = .ok (.iload_n 2, 1) := dq_at (q := (1, .iload_n 2, 1)) dm_Dr_draw_0 1 rfl
theorem dc_Dr_draw_2 : decode cd_Dr_draw 2 = .ok (.iconst 1, 1) := dq_at (q := (2, .iconst 1, 1)) dm_Dr_draw_0 2 rfl
theorem dc_Dr_draw_3 : decode cd_Dr_draw 3 = .ok (.iadd, 1) := dq_at (q := (3, .iadd, 1)) dm_Dr_draw_0 3 rfl
theorem dc_Dr_draw_4 : decode cd_Dr_draw 4 = .ok (.putfield 40, 3) := dq_at (q := (4, .putfield 40, 3)) dm_Dr_draw_0 4 rfl
theorem dc_Dr_draw_7 : decode cd_Dr_draw 7 = .ok (.aload_n 0, 1) := dq_at (q := (7, .aload_n 0, 1)) dm_Dr_draw_0 5 rfl
theorem dc_Dr_draw_8 : decode cd_Dr_draw 8 = .ok (.iconst 2, 1) := dq_at (q := (8, .iconst 2, 1)) dm_Dr_draw_0 6 rfl
theorem dc_Dr_draw_9 : decode cd_Dr_draw 9 = .ok (.iload_n 2, 1) := dq_at (q := (9, .iload_n 2, 1)) dm_Dr_draw_0 7 rfl
theorem dc_Dr_draw_10 : decode cd_Dr_draw 10 = .ok (.imul, 1) := dq_at (q := (10, .imul, 1)) dm_Dr_draw_0 8 rfl
theorem dc_Dr_draw_11 : decode cd_Dr_draw 11 = .ok (.iconst 2, 1) := dq_at (q := (11, .iconst 2, 1)) dm_Dr_draw_0 9 rfl
theorem dc_Dr_draw_12 : decode cd_Dr_draw 12 = .ok (.iadd, 1) := dq_at (q := (12, .iadd, 1)) dm_Dr_draw_0 10 rfl
theorem dc_Dr_draw_13 : decode cd_Dr_draw 13 = .ok (.putfield 44, 3) := dq_at (q := (13, .putfield 44, 3)) dm_Dr_draw_0 11 rfl
theorem dc_Dr_draw_16 : decode cd_Dr_draw 16 = .ok (.aload_n 0, 1) := dq_at (q := (16, .aload_n 0, 1)) dm_Dr_draw_0 12 rfl
theorem dc_Dr_draw_17 : decode cd_Dr_draw 17 = .ok (.getfield 18, 3) := dq_at (q := (17, .getfield 18, 3)) dm_Dr_draw_0 13 rfl
theorem dc_Dr_draw_20 : decode cd_Dr_draw 20 = .ok (.iconst 0, 1) := dq_at (q := (20, .iconst 0, 1)) dm_Dr_draw_0 14 rfl
theorem dc_Dr_draw_21 : decode cd_Dr_draw 21 = .ok (.iconst 0, 1) := dq_at (q := (21, .iconst 0, 1)) dm_Dr_draw_0 15 rfl
theorem dc_Dr_draw_22 : decode cd_Dr_draw 22 = .ok (.iastore, 1) := dq_at (q := (22, .iastore, 1)) dm_Dr_draw_0 16 rfl
theorem dc_Dr_draw_23 : decode cd_Dr_draw 23 = .ok (.aload_n 0, 1) := dq_at (q := (23, .aload_n 0, 1)) dm_Dr_draw_0 17 rfl
theorem dc_Dr_draw_24 : decode cd_Dr_draw 24 = .ok (.getfield 18, 3) := dq_at (q := (24, .getfield 18, 3)) dm_Dr_draw_0 18 rfl
theorem dc_Dr_draw_27 : decode cd_Dr_draw 27 = .ok (.iload_n 2, 1) := dq_at (q := (27, .iload_n 2, 1)) dm_Dr_draw_0 19 rfl
theorem dc_Dr_draw_28 : decode cd_Dr_draw 28 = .ok (.iconst 1, 1) := dq_at (q := (28, .iconst 1, 1)) dm_Dr_draw_0 20 rfl
theorem dc_Dr_draw_29 : decode cd_Dr_draw 29 = .ok (.iadd, 1) := dq_at (q := (29, .iadd, 1)) dm_Dr_draw_0 21 rfl
theorem dc_Dr_draw_30 : decode cd_Dr_draw 30 = .ok (.iload_n 2, 1) := dq_at (q := (30, .iload_n 2, 1)) dm_Dr_draw_0 22 rfl
theorem dc_Dr_draw_31 : decode cd_Dr_draw 31 = .ok (.iconst 1, 1) := dq_at (q := (31, .iconst 1, 1)) dm_Dr_draw_0 23 rfl
theorem dc_Dr_draw_32 : decode cd_Dr_draw 32 = .ok (.iadd, 1) := dq_at (q := (32, .iadd, 1)) dm_Dr_draw_0 24 rfl
theorem dc_Dr_draw_33 : decode cd_Dr_draw 33 = .ok (.iastore, 1) := dq_at (q := (33, .iastore, 1)) dm_Dr_draw_0 25 rfl
theorem dc_Dr_draw_34 : decode cd_Dr_draw 34 = .ok (.aload_n 0, 1) := dq_at (q := (34, .aload_n 0, 1)) dm_Dr_draw_0 26 rfl
theorem dc_Dr_draw_35 : decode cd_Dr_draw 35 = .ok (.iconst 0, 1) := dq_at (q := (35, .iconst 0, 1)) dm_Dr_draw_0 27 rfl
theorem dc_Dr_draw_36 : decode cd_Dr_draw 36 = .ok (.iconst 0, 1) := dq_at (q := (36, .iconst 0, 1)) dm_Dr_draw_0 28 rfl
theorem dc_Dr_draw_37 : decode cd_Dr_draw 37 = .ok (.invokevirtual 47, 3) := dq_at (q := (37, .invokevirtual 47, 3)) dm_Dr_draw_0 29 rfl
theorem dc_Dr_draw_40 : decode cd_Dr_draw 40 = .ok (.aload_n 0, 1) := dq_at (q := (40, .aload_n 0, 1)) dm_Dr_draw_0 30 rfl
theorem dc_Dr_draw_41 : decode cd_Dr_draw 41 = .ok (.iconst 2, 1) := dq_at (q := (41, .iconst 2, 1)) dm_Dr_draw_0 31 rfl
theorem dc_Dr_draw_42 : decode cd_Dr_draw 42 = .ok (.iload_n 2, 1) := dq_at (q := (42, .iload_n 2, 1)) dm_Dr_draw_0 32 rfl
theorem dc_Dr_draw_43 : decode cd_Dr_draw 43 = .ok (.imul, 1) := dq_at (q := (43, .imul, 1)) dm_Dr_draw_0 33 rfl
theorem dc_Dr_draw_44 : decode cd_Dr_draw 44 = .ok (.iconst 1, 1) := dq_at (q := (44, .iconst 1, 1)) dm_Dr_draw_0 34 rfl
theorem dc_Dr_draw_45 : decode cd_Dr_draw 45 = .ok (.iadd, 1) := dq_at (q := (45, .iadd, 1)) dm_Dr_draw_0 35 rfl
theorem dc_Dr_draw_46 : decode cd_Dr_draw 46 = .ok (.iconst 2, 1) := dq_at (q := (46, .iconst 2, 1)) dm_Dr_draw_0 36 rfl
theorem dc_Dr_draw_47 : decode cd_Dr_draw 47 = .ok (.iload_n 2, 1) := dq_at (q := (47, .iload_n 2, 1)) dm_Dr_draw_0 37 rfl
theorem dc_Dr_draw_48 : decode cd_Dr_draw 48 = .ok (.imul, 1) := dq_at (q := (48, .imul, 1)) dm_Dr_draw_0 38 rfl
theorem dc_Dr_draw_49 : decode cd_Dr_draw 49 = .ok (.iconst 1, 1) := dq_at (q := (49, .iconst 1, 1)) dm_Dr_draw_0 39 rfl
theorem dc_Dr_draw_50 : decode cd_Dr_draw 50 = .ok (.iadd, 1) := dq_at (q := (50, .iadd, 1)) dm_Dr_draw_0 40 rfl
theorem dc_Dr_draw_51 : decode cd_Dr_draw 51 = .ok (.invokevirtual 47, 3) := dq_at (q := (51, .invokevirtual 47, 3)) dm_Dr_draw_0 41 rfl
theorem dc_Dr_draw_54 : decode cd_Dr_draw 54 = .ok (.iconst 0, 1) := dq_at (q := (54, .iconst 0, 1)) dm_Dr_draw_0 42 rfl
theorem dc_Dr_draw_55 : decode cd_Dr_draw 55 = .ok (.istore_n 3, 1) := dq_at (q := (55, .istore_n 3, 1)) dm_Dr_draw_0 43 rfl
theorem dc_Dr_draw_56 : decode cd_Dr_draw 56 = .ok (.iload_n 3, 1) := dq_at (q := (56, .iload_n 3, 1)) dm_Dr_draw_0 44 rfl
theorem dc_Dr_draw_57 : decode cd_Dr_draw 57 = .ok (.iload_n 2, 1) := dq_at (q := (57, .iload_n 2, 1)) dm_Dr_draw_0 45 rfl
theorem dc_Dr_draw_58 : decode cd_Dr_draw 58 = .ok (.if_icmp .ge 80, 3) := dq_at (q := (58, .if_icmp .ge 80, 3)) dm_Dr_draw_0 46 rfl
theorem dc_Dr_draw_61 : decode cd_Dr_draw 61 = .ok (.aload_n 1, 1) := dq_at (q := (61, .aload_n 1, 1)) dm_Dr_draw_0 47 rfl
theorem dc_Dr_draw_62 : decode cd_Dr_draw 62 = .ok (.iload_n 3, 1) := dq_at (q := (62, .iload_n 3, 1)) dm_Dr_draw_0 48 rfl
theorem dc_Dr_draw_63 : decode cd_Dr_draw 63 = .ok (.iaload, 1) := dq_at (q := (63, .iaload, 1)) dm_Dr_draw_0 49 rfl
theorem dc_Dr_draw_64 : decode cd_Dr_draw 64 = .ok (.istore 4, 2) := dq_at (q := (64, .istore 4, 2)) dm_Dr_draw_0 50 rfl
theorem dc_Dr_draw_66 : decode cd_Dr_draw 66 = .ok (.aload_n 0, 1) := dq_at (q := (66, .aload_n 0, 1)) dm_Dr_draw_0 51 rfl
theorem dc_Dr_draw_67 : decode cd_Dr_draw 67 = .ok (.getfield 18, 3) := dq_at (q := (67, .getfield 18, 3)) dm_Dr_draw_0 52 rfl
theorem dc_Dr_draw_70 : decode cd_Dr_draw 70 = .ok (.iload_n 3, 1) := dq_at (q := (70, .iload_n 3, 1)) dm_Dr_draw_0 53 rfl
theorem dc_Dr_draw_71 : decode cd_Dr_draw 71 = .ok (.iconst 1, 1) := dq_at (q := (71, .iconst 1, 1)) dm_Dr_draw_0 54 rfl
theorem dc_Dr_draw_72 : decode cd_Dr_draw 72 = .ok (.iadd, 1) := dq_at (q := (72, .iadd, 1)) dm_Dr_draw_0 55 rfl
theorem dc_Dr_draw_73 : decode cd_Dr_draw 73 = .ok (.iload 4, 2) := dq_at (q := (73, .iload 4, 2)) dm_Dr_draw_0 56 rfl
theorem dc_Dr_draw_75 : decode cd_Dr_draw 75 = .ok (.iastore, 1) := dq_at (q := (75, .iastore, 1)) dm_Dr_draw_0 57 rfl
theorem dc_Dr_draw_76 : decode cd_Dr_draw 76 = .ok (.aload_n 0, 1) := dq_at (q := (76, .aload_n 0, 1)) dm_Dr_draw_0 58 rfl
theorem dc_Dr_draw_77 : decode cd_Dr_draw 77 = .ok (.iload 4, 2) := dq_at (q := (77, .iload 4, 2)) dm_Dr_draw_0 59 rfl
def dl_Dr_draw_60 : List (Nat × Instr × Nat) := [(79, .ifCond .le 12, 3), (82, .iconst 2, 1), (83, .iload 4, 2), (85, .imul, 1), (86, .iconst 1, 1), (87, .isub, 1), (88, .goto 8, 3), (91, .bipush (-2), 2), (93, .iload 4, 2), (95, .imul, 1), (96, .iconst 2, 1), (97, .iload_n 3, 1), (98, .imul, 1), (99, .iconst 1, 1), (100, .iadd, 1), (101, .invokevirtual 47, 3), (104, .aload_n 0, 1), (105, .iload 4, 2), (107, .ifCond .le 10, 3), (110, .iconst 2, 1), (111, .iload 4, 2), (113, .imul, 1), (114, .goto 10, 3), (117, .bipush (-2), 2), (119, .iload 4, 2), (121, .imul, 1), (122, .iconst 1, 1), (123, .isub, 1), (124, .iconst 2, 1), (125, .iload_n 3, 1), (126, .imul, 1), (127, .iconst 2, 1), (128, .iadd, 1), (129, .invokevirtual 47, 3), (132, .iinc 3 1, 3), (135, .goto (-79), 3), (138, .iconst 0, 1), (139, .istore_n 3, 1), (140, .iload_n 3, 1), (141, .aload_n 0, 1), (142, .getfield 40, 3), (145, .if_icmp .ge 63, 3), (148, .aload_n 0, 1), (149, .getfield 11, 3), (152, .iload_n 3, 1), (153, .aload_n 0, 1), (154, .getfield 24, 3), (157, .iconst 2, 1), (158, .iload_n 3, 1), (159, .imul, 1), (160, .iaload, 1), (161, .aload_n 0, 1), (162, .getfield 24, 3), (165, .iconst 2, 1), (166, .iload_n 3, 1), (167, .imul, 1), (168, .iconst 1, 1), (169, .iadd, 1), (170, .iaload, 1), (171, .invokestatic 51, 3)]
theorem dm_Dr_draw_60 : dl_Dr_draw_60.all (fun q => decide (decode cd_Dr_draw q.1 = .ok (q.2.1, q.2.2))) = true := by decide +kernel
theorem dc_Dr_draw_79 : decode cd_Dr_draw 79 = .ok (.ifCond .le 12, 3) := dq_at (q := (79, .ifCond .le 12, 3)) dm_Dr_draw_60 0 rfl
theorem dc_Dr_draw_82 : decode cd_Dr_draw 82 = .ok (.iconst 2, 1) := dq_at (q := (82, .iconst 2, 1)) dm_Dr_draw_60 1 rfl
theorem dc_Dr_draw_83 : decode cd_Dr_draw 83 = .ok (.iload 4, 2) := dq_at (q := (83, .iload 4, 2)) dm_Dr_draw_60 2 rfl
theorem dc_Dr_draw_85 : decode cd_Dr_draw 85 = .ok (.imul, 1) := dq_at (q := (85, .imul, 1)) dm_Dr_draw_60 3 rfl
theorem dc_Dr_draw_86 : decode cd_Dr_draw 86 = .ok (.iconst 1, 1) := dq_at (q := (86, .iconst 1, 1)) dm_Dr_draw_60 4 rfl
theorem dc_Dr_draw_87 : decode cd_Dr_draw 87 = .ok (.isub, 1) := dq_at (q := (87, .isub, 1)) dm_Dr_draw_60 5 rfl
theorem dc_Dr_draw_88 : decode cd_Dr_draw 88 = .ok (.goto 8, 3) := dq_at (q := (88, .goto 8, 3)) dm_Dr_draw_60 6 rfl
theorem dc_Dr_draw_91 : decode cd_Dr_draw 91 = .ok (.bipush (-2), 2) := dq_at (q := (91, .bipush (-2), 2)) dm_Dr_draw_60 7 rfl
theorem dc_Dr_draw_93 : decode cd_Dr_draw 93 = .ok (.iload 4, 2) := dq_at (q := (93, .iload 4, 2)) dm_Dr_draw_60 8 rfl
theorem dc_Dr_draw_95 : decode cd_Dr_draw 95 = .ok (.imul, 1) := dq_at (q := (95, .imul, 1)) dm_Dr_draw_60 9 rfl
theorem dc_Dr_draw_96 : decode cd_Dr_draw 96 = .ok (.iconst 2, 1) := dq_at (q := (96, .iconst 2, 1)) dm_Dr_draw_60 10 rfl
theorem dc_Dr_draw_97 : decode cd_Dr_draw 97 = .ok (.iload_n 3, 1) := dq_at (q := (97, .iload_n 3, 1)) dm_Dr_draw_60 11 rfl
theorem dc_Dr_draw_98 : decode cd_Dr_draw 98 = .ok (.imul, 1) := dq_at (q := (98, .imul, 1)) dm_Dr_draw_60 12 rfl
theorem dc_Dr_draw_99 : decode cd_Dr_draw 99 = .ok (.iconst 1, 1) := dq_at (q := (99, .iconst 1, 1)) dm_Dr_draw_60 13 rfl
theorem dc_Dr_draw_100 : decode cd_Dr_draw 100 = .ok (.iadd, 1) := dq_at (q := (100, .iadd, 1)) dm_Dr_draw_60 14 rfl
theorem dc_Dr_draw_101 : decode cd_Dr_draw 101 = .ok (.invokevirtual 47, 3) := dq_at (q := (101, .invokevirtual 47, 3)) dm_Dr_draw_60 15 rfl
theorem dc_Dr_draw_104 : decode cd_Dr_draw 104 = .ok (.aload_n 0, 1) := dq_at (q := (104, .aload_n 0, 1)) dm_Dr_draw_60 16 rfl
theorem dc_Dr_draw_105 : decode cd_Dr_draw 105 = .ok (.iload 4, 2) := dq_at (q := (105, .iload 4, 2)) dm_Dr_draw_60 17 rfl
theorem dc_Dr_draw_107 : decode cd_Dr_draw 107 = .ok (.ifCond .le 10, 3) := dq_at (q := (107, .ifCond .le 10, 3)) dm_Dr_draw_60 18 rfl
theorem dc_Dr_draw_110 : decode cd_Dr_draw 110 = .ok (.iconst 2, 1) := dq_at (q := (110, .iconst 2, 1)) dm_Dr_draw_60 19 rfl
theorem dc_Dr_draw_111 : decode cd_Dr_draw 111 = .ok (.iload 4, 2) := dq_at (q := (111, .iload 4, 2)) dm_Dr_draw_60 20 rfl
theorem dc_Dr_draw_113 : decode cd_Dr_draw 113 = .ok (.imul, 1) := dq_at (q := (113, .imul, 1)) dm_Dr_draw_60 21 rfl
theorem dc_Dr_draw_114 : decode cd_Dr_draw 114 = .ok (.goto 10, 3) := dq_at (q := (114, .goto 10, 3)) dm_Dr_draw_60 22 rfl
theorem dc_Dr_draw_117 : decode cd_Dr_draw 117 = .ok (.bipush (-2), 2) := dq_at (q := (117, .bipush (-2), 2)) dm_Dr_draw_60 23 rfl
theorem dc_Dr_draw_119 : decode cd_Dr_draw 119 = .ok (.iload 4, 2) := dq_at (q := (119, .iload 4, 2)) dm_Dr_draw_60 24 rfl
theorem dc_Dr_draw_121 : decode cd_Dr_draw 121 = .ok (.imul, 1) := dq_at (q := (121, .imul, 1)) dm_Dr_draw_60 25 rfl
theorem dc_Dr_draw_122 : decode cd_Dr_draw 122 = .ok (.iconst 1, 1) := dq_at (q := (122, .iconst 1, 1)) dm_Dr_draw_60 26 rfl
theorem dc_Dr_draw_123 : decode cd_Dr_draw 123 = .ok (.isub, 1) := dq_at (q := (123, .isub, 1)) dm_Dr_draw_60 27 rfl
theorem dc_Dr_draw_124 : decode cd_Dr_draw 124 = .ok (.iconst 2, 1) := dq_at (q := (124, .iconst 2, 1)) dm_Dr_draw_60 28 rfl
theorem dc_Dr_draw_125 : decode cd_Dr_draw 125 = .ok (.iload_n 3, 1) := dq_at (q := (125, .iload_n 3, 1)) dm_Dr_draw_60 29 rfl
theorem dc_Dr_draw_126 : decode cd_Dr_draw 126 = .ok (.imul, 1) := dq_at (q := (126, .imul, 1)) dm_Dr_draw_60 30 rfl
theorem dc_Dr_draw_127 : decode cd_Dr_draw 127 = .ok (.iconst 2, 1) := dq_at (q := (127, .iconst 2, 1)) dm_Dr_draw_60 31 rfl
theorem dc_Dr_draw_128 : decode cd_Dr_draw 128 = .ok (.iadd, 1) := dq_at (q := (128, .iadd, 1)) dm_Dr_draw_60 32 rfl
theorem dc_Dr_draw_129 : decode cd_Dr_draw 129 = .ok (.invokevirtual 47, 3) := dq_at (q := (129, .invokevirtual 47, 3)) dm_Dr_draw_60 33 rfl
theorem dc_Dr_draw_132 : decode cd_Dr_draw 132 = .ok (.iinc 3 1, 3) := dq_at (q := (132, .iinc 3 1, 3)) dm_Dr_draw_60 34 rfl
theorem dc_Dr_draw_135 : decode cd_Dr_draw 135 = .ok (.goto (-79), 3) := dq_at (q := (135, .goto (-79), 3)) dm_Dr_draw_60 35 rfl
theorem dc_Dr_draw_138 : decode cd_Dr_draw 138 = .ok (.iconst 0, 1) := dq_at (q := (138, .iconst 0, 1)) dm_Dr_draw_60 36 rfl
theorem dc_Dr_draw_139 : decode cd_Dr_draw 139 = .ok (.istore_n 3, 1) := dq_at (q := (139, .istore_n 3, 1)) dm_Dr_draw_60 37 rfl
theorem dc_Dr_draw_140 : decode cd_Dr_draw 140 = .ok (.iload_n 3, 1) := dq_at (q := (140, .iload_n 3, 1)) dm_Dr_draw_60 38 rfl
theorem dc_Dr_draw_141 : decode cd_Dr_draw 141 = .ok (.aload_n 0, 1) := dq_at (q := (141, .aload_n 0, 1)) dm_Dr_draw_60 39 rfl
theorem dc_Dr_draw_142 : decode cd_Dr_draw 142 = .ok (.getfield 40, 3) := dq_at (q := (142, .getfield 40, 3)) dm_Dr_draw_60 40 rfl
theorem dc_Dr_draw_145 : decode cd_Dr_draw 145 = .ok (.if_icmp .ge 63, 3) := dq_at (q := (145, .if_icmp .ge 63, 3)) dm_Dr_draw_60 41 rfl
theorem dc_Dr_draw_148 : decode cd_Dr_draw 148 = .ok (.aload_n 0, 1) := dq_at (q := (148, .aload_n 0, 1)) dm_Dr_draw_60 42 rfl
theorem dc_Dr_draw_149 : decode cd_Dr_draw 149 = .ok (.getfield 11, 3) := dq_at (q := (149, .getfield 11, 3)) dm_Dr_draw_60 43 rfl
theorem dc_Dr_draw_152 : decode cd_Dr_draw 152 = .ok (.iload_n 3, 1) := dq_at (q := (152, .iload_n 3, 1)) dm_Dr_draw_60 44 rfl
theorem dc_Dr_draw_153 : decode cd_Dr_draw 153 = .ok (.aload_n 0, 1) := dq_at (q := (153, .aload_n 0, 1)) dm_Dr_draw_60 45 rfl
theorem dc_Dr_draw_154 : decode cd_Dr_draw 154 = .ok (.getfield 24, 3) := dq_at (q := (154, .getfield 24, 3)) dm_Dr_draw_60 46 rfl
theorem dc_Dr_draw_157 : decode cd_Dr_draw 157 = .ok (.iconst 2, 1) := dq_at (q := (157, .iconst 2, 1)) dm_Dr_draw_60 47 rfl
theorem dc_Dr_draw_158 : decode cd_Dr_draw 158 = .ok (.iload_n 3, 1) := dq_at (q := (158, .iload_n 3, 1)) dm_Dr_draw_60 48 rfl
theorem dc_Dr_draw_159 : decode cd_Dr_draw 159 = .ok (.imul, 1) := dq_at (q := (159, .imul, 1)) dm_Dr_draw_60 49 rfl
theorem dc_Dr_draw_160 : decode cd_Dr_draw 160 = .ok (.iaload, 1) := dq_at (q := (160, .iaload, 1)) dm_Dr_draw_60 50 rfl
theorem dc_Dr_draw_161 : decode cd_Dr_draw 161 = .ok (.aload_n 0, 1) := dq_at (q := (161, .aload_n 0, 1)) dm_Dr_draw_60 51 rfl
theorem dc_Dr_draw_162 : decode cd_Dr_draw 162 = .ok (.getfield 24, 3) := dq_at (q := (162, .getfield 24, 3)) dm_Dr_draw_60 52 rfl
theorem dc_Dr_draw_165 : decode cd_Dr_draw 165 = .ok (.iconst 2, 1) := dq_at (q := (165, .iconst 2, 1)) dm_Dr_draw_60 53 rfl
theorem dc_Dr_draw_166 : decode cd_Dr_draw 166 = .ok (.iload_n 3, 1) := dq_at (q := (166, .iload_n 3, 1)) dm_Dr_draw_60 54 rfl
theorem dc_Dr_draw_167 : decode cd_Dr_draw 167 = .ok (.imul, 1) := dq_at (q := (167, .imul, 1)) dm_Dr_draw_60 55 rfl
theorem dc_Dr_draw_168 : decode cd_Dr_draw 168 = .ok (.iconst 1, 1) := dq_at (q := (168, .iconst 1, 1)) dm_Dr_draw_60 56 rfl
theorem dc_Dr_draw_169 : decode cd_Dr_draw 169 = .ok (.iadd, 1) := dq_at (q := (169, .iadd, 1)) dm_Dr_draw_60 57 rfl
theorem dc_Dr_draw_170 : decode cd_Dr_draw 170 = .ok (.iaload, 1) := dq_at (q := (170, .iaload, 1)) dm_Dr_draw_60 58 rfl
theorem dc_Dr_draw_171 : decode cd_Dr_draw 171 = .ok (.invokestatic 51, 3) := dq_at (q := (171, .invokestatic 51, 3)) dm_Dr_draw_60 59 rfl
def dl_Dr_draw_120 : List (Nat × Instr × Nat) := [(174, .iastore, 1), (175, .aload_n 0, 1), (176, .getfield 15, 3), (179, .iload_n 3, 1), (180, .aload_n 0, 1), (181, .getfield 24, 3), (184, .iconst 2, 1), (185, .iload_n 3, 1), (186, .imul, 1), (187, .iaload, 1), (188, .aload_n 0, 1), (189, .getfield 24, 3), (192, .iconst 2, 1), (193, .iload_n 3, 1), (194, .imul, 1), (195, .iconst 1, 1), (196, .iadd, 1), (197, .iaload, 1), (198, .invokestatic 57, 3), (201, .iastore, 1), (202, .iinc 3 1, 3), (205, .goto (-65), 3), (208, .aload_n 0, 1), (209, .invokevirtual 60, 3), (212, .aload_n 0, 1), (213, .invokevirtual 63, 3), (216, .return_, 1)]
theorem dm_Dr_draw_120 : dl_Dr_draw_120.all (fun q => decide (decode cd_Dr_draw q.1 = .ok (q.2.1, q.2.2))) = true := by decide +kernel
theorem dc_Dr_draw_174 : decode cd_Dr_draw 174 = .ok (.iastore, 1) := dq_at (q := (174, .iastore, 1)) dm_Dr_draw_120 0 rfl
theorem dc_Dr_draw_175 : decode cd_Dr_draw 175 = .ok (.aload_n 0, 1) := dq_at (q := (175, .aload_n 0, 1)) dm_Dr_draw_120 1 rfl
theorem dc_Dr_draw_176 : decode cd_Dr_draw 176 = .ok (.getfield 15, 3) := dq_at (q := (176, .getfield 15, 3)) dm_Dr_draw_120 2 rfl
theorem dc_Dr_draw_179 : decode cd_Dr_draw 179 = .ok (.iload_n 3, 1) := dq_at (q := (179, .iload_n 3, 1)) dm_Dr_draw_120 3 rfl
theorem dc_Dr_draw_180 : decode cd_Dr_draw 180 = .ok (.aload_n 0, 1) := dq_at (q := (180, .aload_n 0, 1)) dm_Dr_draw_120 4 rfl
theorem dc_Dr_draw_181 : decode cd_Dr_draw 181 = .ok (.getfield 24, 3) := dq_at (q := (181, .getfield 24, 3)) dm_Dr_draw_120 5 rfl
theorem dc_Dr_draw_184 : decode cd_Dr_draw 184 = .ok (.iconst 2, 1) := dq_at (q := (184, .iconst 2, 1)) dm_Dr_draw_120 6 rfl
theorem dc_Dr_draw_185 : decode cd_Dr_draw 185 = .ok (.iload_n 3, 1) := dq_at (q := (185, .iload_n 3, 1)) dm_Dr_draw_120 7 rfl
theorem dc_Dr_draw_186 : decode cd_Dr_draw 186 = .ok (.imul, 1) := dq_at (q := (186, .imul, 1)) dm_Dr_draw_120 8 rfl
theorem dc_Dr_draw_187 : decode cd_Dr_draw 187 = .ok (.iaload, 1) := dq_at (q := (187, .iaload, 1)) dm_Dr_draw_120 9 rfl
theorem dc_Dr_draw_188 : decode cd_Dr_draw 188 = .ok (.aload_n 0, 1) := dq_at (q := (188, .aload_n 0, 1)) dm_Dr_draw_120 10 rfl
theorem dc_Dr_draw_189 : decode cd_Dr_draw 189 = .ok (.getfield 24, 3) := dq_at (q := (189, .getfield 24, 3)) dm_Dr_draw_120 11 rfl
theorem dc_Dr_draw_192 : decode cd_Dr_draw 192 = .ok (.iconst 2, 1) := dq_at (q := (192, .iconst 2, 1)) dm_Dr_draw_120 12 rfl
theorem dc_Dr_draw_193 : decode cd_Dr_draw 193 = .ok (.iload_n 3, 1) := dq_at (q := (193, .iload_n 3, 1)) dm_Dr_draw_120 13 rfl
theorem dc_Dr_draw_194 : decode cd_Dr_draw 194 = .ok (.imul, 1) := dq_at (q := (194, .imul, 1)) dm_Dr_draw_120 14 rfl
theorem dc_Dr_draw_195 : decode cd_Dr_draw 195 = .ok (.iconst 1, 1) := dq_at (q := (195, .iconst 1, 1)) dm_Dr_draw_120 15 rfl
theorem dc_Dr_draw_196 : decode cd_Dr_draw 196 = .ok (.iadd, 1) := dq_at (q := (196, .iadd, 1)) dm_Dr_draw_120 16 rfl
theorem dc_Dr_draw_197 : decode cd_Dr_draw 197 = .ok (.iaload, 1) := dq_at (q := (197, .iaload, 1)) dm_Dr_draw_120 17 rfl
theorem dc_Dr_draw_198 : decode cd_Dr_draw 198 = .ok (.invokestatic 57, 3) := dq_at (q := (198, .invokestatic 57, 3)) dm_Dr_draw_120 18 rfl
theorem dc_Dr_draw_201 : decode cd_Dr_draw 201 = .ok (.iastore, 1) := dq_at (q := (201, .iastore, 1)) dm_Dr_draw_120 19 rfl
theorem dc_Dr_draw_202 : decode cd_Dr_draw 202 = .ok (.iinc 3 1, 3) := dq_at (q := (202, .iinc 3 1, 3)) dm_Dr_draw_120 20 rfl
theorem dc_Dr_draw_205 : decode cd_Dr_draw 205 = .ok (.goto (-65), 3) := dq_at (q := (205, .goto (-65), 3)) dm_Dr_draw_120 21 rfl
theorem dc_Dr_draw_208 : decode cd_Dr_draw 208 = .ok (.aload_n 0, 1) := dq_at (q := (208, .aload_n 0, 1)) dm_Dr_draw_120 22 rfl
theorem dc_Dr_draw_209 : decode cd_Dr_draw 209 = .ok (.invokevirtual 60, 3) := dq_at (q := (209, .invokevirtual 60, 3)) dm_Dr_draw_120 23 rfl
theorem dc_Dr_draw_212 : decode cd_Dr_draw 212 = .ok (.aload_n 0, 1) := dq_at (q := (212, .aload_n 0, 1)) dm_Dr_draw_120 24 rfl
theorem dc_Dr_draw_213 : decode cd_Dr_draw 213 = .ok (.invokevirtual 63, 3) := dq_at (q := (213, .invokevirtual 63, 3)) dm_Dr_draw_120 25 rfl
theorem dc_Dr_draw_216 : decode cd_Dr_draw 216 = .ok (.return_, 1) := dq_at (q := (216, .return_, 1)) dm_Dr_draw_120 26 rfl
def dl_Dr_putEnd_0 : List (Nat × Instr × Nat) := [(0, .aload_n 0, 1), (1, .getfield 21, 3), (4, .iload_n 2, 1), (5, .iload_n 1, 1), (6, .iastore, 1), (7, .aload_n 0, 1), (8, .getfield 24, 3), (11, .iload_n 1, 1), (12, .iload_n 2, 1), (13, .iastore, 1), (14, .return_, 1)]
theorem dm_Dr_putEnd_0 : dl_Dr_putEnd_0.all (fun q => decide (decode cd_Dr_putEnd q.1 = .ok (q.2.1, q.2.2))) = true := by decide +kernel
theorem dc_Dr_putEnd_0 : decode cd_Dr_putEnd 0 = .ok (.aload_n 0, 1) := dq_at (q := (0, .aload_n 0, 1)) dm_Dr_putEnd_0 0 rfl
theorem dc_Dr_putEnd_1 : decode cd_Dr_putEnd 1 = .ok (.getfield 21, 3) := dq_at (q := (1, .getfield 21, 3)) dm_Dr_putEnd_0 1 rfl
theorem dc_Dr_putEnd_4 : decode cd_Dr_putEnd 4 = .ok (.iload_n 2, 1) := dq_at (q := (4, .iload_n 2, 1)) dm_Dr_putEnd_0 2 rfl
theorem dc_Dr_putEnd_5 : decode cd_Dr_putEnd 5 = .ok (.iload_n 1, 1) := dq_at (q := (5, .iload_n 1, 1)) dm_Dr_putEnd_0 3 rfl
theorem dc_Dr_putEnd_6 : decode cd_Dr_putEnd 6 = .ok (.iastore, 1) := dq_at (q := (6, .iastore, 1)) dm_Dr_putEnd_0 4 rfl
theorem dc_Dr_putEnd_7 : decode cd_Dr_putEnd 7 = .ok (.aload_n 0, 1) := dq_at (q := (7, .aload_n 0, 1)) dm_Dr_putEnd_0 5 rfl
theorem dc_Dr_putEnd_8 : decode cd_Dr_putEnd 8 = .ok (.getfield 24, 3) := dq_at (q := (8, .getfield 24, 3)) dm_Dr_putEnd_0 6 rfl
theorem dc_Dr_putEnd_11 : decode cd_Dr_putEnd 11 = .ok (.iload_n 1, 1) := dq_at (q := (11, .iload_n 1, 1)) dm_Dr_putEnd_0 7 rfl
theorem dc_Dr_putEnd_12 : decode cd_Dr_putEnd 12 = .ok (.iload_n 2, 1) := dq_at (q := (12, .iload_n 2, 1)) dm_Dr_putEnd_0 8 rfl
theorem dc_Dr_putEnd_13 : decode cd_Dr_putEnd 13 = .ok (.iastore, 1) := dq_at (q := (13, .iastore, 1)) dm_Dr_putEnd_0 9 rfl
theorem dc_Dr_putEnd_14 : decode cd_Dr_putEnd 14 = .ok (.return_, 1) := dq_at (q := (14, .return_, 1)) dm_Dr_putEnd_0 10 rfl
def dl_Dr_joinParts_0 : List (Nat × Instr × Nat) := [(0, .iconst 0, 1), (1, .istore_n 1, 1), (2, .iload_n 1, 1), (3, .aload_n 0, 1), (4, .getfield 40, 3), (7, .if_icmp .ge 16, 3), (10, .aload_n 0, 1), (11, .getfield 31, 3), (14, .iload_n 1, 1), (15, .iload_n 1, 1), (16, .iastore, 1), (17, .iinc 1 1, 3), (20, .goto (-18), 3), (23, .iconst 0, 1), (24, .istore_n 1, 1), (25, .iload_n 1, 1), (26, .aload_n 0, 1), (27, .getfield 40, 3), (30, .if_icmp .ge 67, 3), (33, .iload_n 1, 1), (34, .iconst 1, 1), (35, .iadd, 1), (36, .istore_n 2, 1), (37, .iload_n 2, 1), (38, .aload_n 0, 1), (39, .getfield 40, 3), (42, .if_icmp .ge 49, 3), (45, .aload_n 0, 1), (46, .getfield 31, 3), (49, .iload_n 1, 1), (50, .iaload, 1), (51, .aload_n 0, 1), (52, .getfield 31, 3), (55, .iload_n 2, 1), (56, .iaload, 1), (57, .if_icmp .eq 28, 3), (60, .aload_n 0, 1), (61, .iload_n 1, 1), (62, .iload_n 2, 1), (63, .invokevirtual 66, 3), (66, .ifCond .eq 19, 3), (69, .aload_n 0, 1), (70, .aload_n 0, 1), (71, .getfield 31, 3), (74, .iload_n 1, 1), (75, .iaload, 1), (76, .aload_n 0, 1), (77, .getfield 31, 3), (80, .iload_n 2, 1), (81, .iaload, 1), (82, .invokevirtual 70, 3), (85, .iinc 2 1, 3), (88, .goto (-51), 3), (91, .iinc 1 1, 3), (94, .goto (-69), 3), (97, .return_, 1)]
theorem dm_Dr_joinParts_0 : dl_Dr_joinParts_0.all (fun q => decide (decode cd_Dr_joinParts q.1 = .ok (q.2.1, q.2.2))) = true := by decide +kernel
theorem dc_Dr_joinParts_0 : decode cd_Dr_joinParts 0 = .ok (.iconst 0, 1) := dq_at (q := (0, .iconst 0, 1)) dm_Dr_joinParts_0 0 rfl
theorem dc_Dr_joinParts_1 : decode cd_Dr_joinParts 1 = .ok (.istore_n 1, 1) := dq_at (q := (1, .istore_n 1, 1)) dm_Dr_joinParts_0 1 rfl
theorem dc_Dr_joinParts_2 : decode cd_Dr_joinParts 2 = .ok (.iload_n 1, 1) := dq_at (q := (2, .iload_n 1, 1)) dm_Dr_joinParts_0 2 rfl
theorem dc_Dr_joinParts_3 : decode cd_Dr_joinParts 3 = .ok (.aload_n 0, 1) := dq_at (q := (3, .aload_n 0, 1)) dm_Dr_joinParts_0 3 rfl
theorem dc_Dr_joinParts_4 : decode cd_Dr_joinParts 4 = .ok (.getfield 40, 3) := dq_at (q := (4, .getfield 40, 3)) dm_Dr_joinParts_0 4 rfl
theorem dc_Dr_joinParts_7 : decode cd_Dr_joinParts 7 = .ok (.if_icmp .ge 16, 3) := dq_at (q := (7, .if_icmp .ge 16, 3)) dm_Dr_joinParts_0 5 rfl
theorem dc_Dr_joinParts_10 : decode cd_Dr_joinParts 10 = .ok (.aload_n 0, 1) := dq_at (q := (10, .aload_n 0, 1)) dm_Dr_joinParts_0 6 rfl
theorem dc_Dr_joinParts_11 : decode cd_Dr_joinParts 11 = .ok (.getfield 31, 3) := dq_at (q := (11, .getfield 31, 3)) dm_Dr_joinParts_0 7 rfl
theorem dc_Dr_joinParts_14 : decode cd_Dr_joinParts 14 = .ok (.iload_n 1, 1) := dq_at (q := (14, .iload_n 1, 1)) dm_Dr_joinParts_0 8 rfl
theorem dc_Dr_joinParts_15 : decode cd_Dr_joinParts 15 = .ok (.iload_n 1, 1) := dq_at (q := (15, .iload_n 1, 1)) dm_Dr_joinParts_0 9 rfl
theorem dc_Dr_joinParts_16 : decode cd_Dr_joinParts 16 = .ok (.iastore, 1) := dq_at (q := (16, .iastore, 1)) dm_Dr_joinParts_0 10 rfl
theorem dc_Dr_joinParts_17 : decode cd_Dr_joinParts 17 = .ok (.iinc 1 1, 3) := dq_at (q := (17, .iinc 1 1, 3)) dm_Dr_joinParts_0 11 rfl
theorem dc_Dr_joinParts_20 : decode cd_Dr_joinParts 20 = .ok (.goto (-18), 3) := dq_at (q := (20, .goto (-18), 3)) dm_Dr_joinParts_0 12 rfl
theorem dc_Dr_joinParts_23 : decode cd_Dr_joinParts 23 = .ok (.iconst 0, 1) := dq_at (q := (23, .iconst 0, 1)) dm_Dr_joinParts_0 13 rfl
theorem dc_Dr_joinParts_24 : decode cd_Dr_joinParts 24 = .ok (.istore_n 1, 1) := dq_at (q := (24, .istore_n 1, 1)) dm_Dr_joinParts_0 14 rfl
theorem dc_Dr_joinParts_25 : decode cd_Dr_joinParts 25 = .ok (.iload_n 1, 1) := dq_at (q := (25, .iload_n 1, 1)) dm_Dr_joinParts_0 15 rfl
theorem dc_Dr_joinParts_26 : decode cd_Dr_joinParts 26 = .ok (.aload_n 0, 1) := dq_at (q := (26, .aload_n 0, 1)) dm_Dr_joinParts_0 16 rfl
theorem dc_Dr_joinParts_27 : decode cd_Dr_joinParts 27 = .ok (.getfield 40, 3) := dq_at (q := (27, .getfield 40, 3)) dm_Dr_joinParts_0 17 rfl
theorem dc_Dr_joinParts_30 : decode cd_Dr_joinParts 30 = .ok (.if_icmp .ge 67, 3) := dq_at (q := (30, .if_icmp .ge 67, 3)) dm_Dr_joinParts_0 18 rfl
theorem dc_Dr_joinParts_33 : decode cd_Dr_joinParts 33 = .ok (.iload_n 1, 1) := dq_at (q := (33, .iload_n 1, 1)) dm_Dr_joinParts_0 19 rfl
theorem dc_Dr_joinParts_34 : decode cd_Dr_joinParts 34 = .ok (.iconst 1, 1) := dq_at (q := (34, .iconst 1, 1)) dm_Dr_joinParts_0 20 rfl
theorem dc_Dr_joinParts_35 : decode cd_Dr_joinParts 35 = .ok (.iadd, 1) := dq_at (q := (35, .iadd, 1)) dm_Dr_joinParts_0 21 rfl
theorem dc_Dr_joinParts_36 : decode cd_Dr_joinParts 36 = .ok (.istore_n 2, 1) := dq_at (q := (36, .istore_n 2, 1)) dm_Dr_joinParts_0 22 rfl
theorem dc_Dr_joinParts_37 : decode cd_Dr_joinParts 37 = .ok (.iload_n 2, 1) := dq_at (q := (37, .iload_n 2, 1)) dm_Dr_joinParts_0 23 rfl
theorem dc_Dr_joinParts_38 : decode cd_Dr_joinParts 38 = .ok (.aload_n 0, 1) := dq_at (q := (38, .aload_n 0, 1)) dm_Dr_joinParts_0 24 rfl
theorem dc_Dr_joinParts_39 : decode cd_Dr_joinParts 39 = .ok (.getfield 40, 3) := dq_at (q := (39, .getfield 40, 3)) dm_Dr_joinParts_0 25 rfl
theorem dc_Dr_joinParts_42 : decode cd_Dr_joinParts 42 = .ok (.if_icmp .ge 49, 3) := dq_at (q := (42, .if_icmp .ge 49, 3)) dm_Dr_joinParts_0 26 rfl
theorem dc_Dr_joinParts_45 : decode cd_Dr_joinParts 45 = .ok (.aload_n 0, 1) := dq_at (q := (45, .aload_n 0, 1)) dm_Dr_joinParts_0 27 rfl
theorem dc_Dr_joinParts_46 : decode cd_Dr_joinParts 46 = .ok (.getfield 31, 3) := dq_at (q := (46, .getfield 31, 3)) dm_Dr_joinParts_0 28 rfl
theorem dc_Dr_joinParts_49 : decode cd_Dr_joinParts 49 = .ok (.iload_n 1, 1) := dq_at (q := (49, .iload_n 1, 1)) dm_Dr_joinParts_0 29 rfl
theorem dc_Dr_joinParts_50 : decode cd_Dr_joinParts 50 = .ok (.iaload, 1) := dq_at (q := (50, .iaload, 1)) dm_Dr_joinParts_0 30 rfl
theorem dc_Dr_joinParts_51 : decode cd_Dr_joinParts 51 = .ok (.aload_n 0, 1) := dq_at (q := (51, .aload_n 0, 1)) dm_Dr_joinParts_0 31 rfl
theorem dc_Dr_joinParts_52 : decode cd_Dr_joinParts 52 = .ok (.getfield 31, 3) := dq_at (q := (52, .getfield 31, 3)) dm_Dr_joinParts_0 32 rfl
theorem dc_Dr_joinParts_55 : decode cd_Dr_joinParts 55 = .ok (.iload_n 2, 1) := dq_at (q := (55, .iload_n 2, 1)) dm_Dr_joinParts_0 33 rfl
theorem dc_Dr_joinParts_56 : decode cd_Dr_joinParts 56 = .ok (.iaload, 1) := dq_at (q := (56, .iaload, 1)) dm_Dr_joinParts_0 34 rfl
theorem dc_Dr_joinParts_57 : decode cd_Dr_joinParts 57 = .ok (.if_icmp .eq 28, 3) := dq_at (q := (57, .if_icmp .eq 28, 3)) dm_Dr_joinParts_0 35 rfl
theorem dc_Dr_joinParts_60 : decode cd_Dr_joinParts 60 = .ok (.aload_n 0, 1) := dq_at (q := (60, .aload_n 0, 1)) dm_Dr_joinParts_0 36 rfl
theorem dc_Dr_joinParts_61 : decode cd_Dr_joinParts 61 = .ok (.iload_n 1, 1) := dq_at (q := (61, .iload_n 1, 1)) dm_Dr_joinParts_0 37 rfl
theorem dc_Dr_joinParts_62 : decode cd_Dr_joinParts 62 = .ok (.iload_n 2, 1) := dq_at (q := (62, .iload_n 2, 1)) dm_Dr_joinParts_0 38 rfl
theorem dc_Dr_joinParts_63 : decode cd_Dr_joinParts 63 = .ok (.invokevirtual 66, 3) := dq_at (q := (63, .invokevirtual 66, 3)) dm_Dr_joinParts_0 39 rfl
theorem dc_Dr_joinParts_66 : decode cd_Dr_joinParts 66 = .ok (.ifCond .eq 19, 3) := dq_at (q := (66, .ifCond .eq 19, 3)) dm_Dr_joinParts_0 40 rfl
theorem dc_Dr_joinParts_69 : decode cd_Dr_joinParts 69 = .ok (.aload_n 0, 1) := dq_at (q := (69, .aload_n 0, 1)) dm_Dr_joinParts_0 41 rfl
theorem dc_Dr_joinParts_70 : decode cd_Dr_joinParts 70 = .ok (.aload_n 0, 1) := dq_at (q := (70, .aload_n 0, 1)) dm_Dr_joinParts_0 42 rfl
theorem dc_Dr_joinParts_71 : decode cd_Dr_joinParts 71 = .ok (.getfield 31, 3) := dq_at (q := (71, .getfield 31, 3)) dm_Dr_joinParts_0 43 rfl
theorem dc_Dr_joinParts_74 : decode cd_Dr_joinParts 74 = .ok (.iload_n 1, 1) := dq_at (q := (74, .iload_n 1, 1)) dm_Dr_joinParts_0 44 rfl
theorem dc_Dr_joinParts_75 : decode cd_Dr_joinParts 75 = .ok (.iaload, 1) := dq_at (q := (75, .iaload, 1)) dm_Dr_joinParts_0 45 rfl
theorem dc_Dr_joinParts_76 : decode cd_Dr_joinParts 76 = .ok (.aload_n 0, 1) := dq_at (q := (76, .aload_n 0, 1)) dm_Dr_joinParts_0 46 rfl
theorem dc_Dr_joinParts_77 : decode cd_Dr_joinParts 77 = .ok (.getfield 31, 3) := dq_at (q := (77, .getfield 31, 3)) dm_Dr_joinParts_0 47 rfl
theorem dc_Dr_joinParts_80 : decode cd_Dr_joinParts 80 = .ok (.iload_n 2, 1) := dq_at (q := (80, .iload_n 2, 1)) dm_Dr_joinParts_0 48 rfl
theorem dc_Dr_joinParts_81 : decode cd_Dr_joinParts 81 = .ok (.iaload, 1) := dq_at (q := (81, .iaload, 1)) dm_Dr_joinParts_0 49 rfl
theorem dc_Dr_joinParts_82 : decode cd_Dr_joinParts 82 = .ok (.invokevirtual 70, 3) := dq_at (q := (82, .invokevirtual 70, 3)) dm_Dr_joinParts_0 50 rfl
theorem dc_Dr_joinParts_85 : decode cd_Dr_joinParts 85 = .ok (.iinc 2 1, 3) := dq_at (q := (85, .iinc 2 1, 3)) dm_Dr_joinParts_0 51 rfl
theorem dc_Dr_joinParts_88 : decode cd_Dr_joinParts 88 = .ok (.goto (-51), 3) := dq_at (q := (88, .goto (-51), 3)) dm_Dr_joinParts_0 52 rfl
theorem dc_Dr_joinParts_91 : decode cd_Dr_joinParts 91 = .ok (.iinc 1 1, 3) := dq_at (q := (91, .iinc 1 1, 3)) dm_Dr_joinParts_0 53 rfl
theorem dc_Dr_joinParts_94 : decode cd_Dr_joinParts 94 = .ok (.goto (-69), 3) := dq_at (q := (94, .goto (-69), 3)) dm_Dr_joinParts_0 54 rfl
theorem dc_Dr_joinParts_97 : decode cd_Dr_joinParts 97 = .ok (.return_, 1) := dq_at (q := (97, .return_, 1)) dm_Dr_joinParts_0 55 rfl
def dl_Dr_isCrossing_0 : List (Nat × Instr × Nat) := [(0, .aload_n 0, 1), (1, .aload_n 0, 1), (2, .getfield 11, 3), (5, .iload_n 2, 1), (6, .iaload, 1), (7, .iload_n 1, 1), (8, .invokevirtual 73, 3), (11, .aload_n 0, 1), (12, .aload_n 0, 1), (13, .getfield 15, 3), (16, .iload_n 2, 1), (17, .iaload, 1), (18, .iload_n 1, 1), (19, .invokevirtual 73, 3), (22, .if_icmp .eq 7, 3), (25, .iconst 1, 1), (26, .goto 4, 3), (29, .iconst 0, 1), (30, .ireturn, 1)]
theorem dm_Dr_isCrossing_0 : dl_Dr_isCrossing_0.all (fun q => decide (decode cd_Dr_isCrossing q.1 = .ok (q.2.1, q.2.2))) = true := by decide +kernel
theorem dc_Dr_isCrossing_0 : decode cd_Dr_isCrossing 0 = .ok (.aload_n 0, 1) := dq_at (q := (0, .aload_n 0, 1)) dm_Dr_isCrossing_0 0 rfl
theorem dc_Dr_isCrossing_1 : decode cd_Dr_isCrossing 1 = .ok (.aload_n 0, 1) := dq_at (q := (1, .aload_n 0, 1)) dm_Dr_isCrossing_0 1 rfl
theorem dc_Dr_isCrossing_2 : decode cd_Dr_isCrossing 2 = .ok (.getfield 11, 3) := dq_at (q := (2, .getfield 11, 3)) dm_Dr_isCrossing_0 2 rfl
theorem dc_Dr_isCrossing_5 : decode cd_Dr_isCrossing 5 = .ok (.iload_n 2, 1) := dq_at (q := (5, .iload_n 2, 1)) dm_Dr_isCrossing_0 3 rfl
theorem dc_Dr_isCrossing_6 : decode cd_Dr_isCrossing 6 = .ok (.iaload, 1) := dq_at (q := (6, .iaload, 1)) dm_Dr_isCrossing_0 4 rfl
theorem dc_Dr_isCrossing_7 : decode cd_Dr_isCrossing 7 = .ok (.iload_n 1, 1) := dq_at (q := (7, .iload_n 1, 1)) dm_Dr_isCrossing_0 5 rfl
theorem dc_Dr_isCrossing_8 : decode cd_Dr_isCrossing 8 = .ok (.invokevirtual 73, 3) := dq_at (q := (8, .invokevirtual 73, 3)) dm_Dr_isCrossing_0 6 rfl
theorem dc_Dr_isCrossing_11 : decode cd_Dr_isCrossing 11 = .ok (.aload_n 0, 1) := dq_at (q := (11, .aload_n 0, 1)) dm_Dr_isCrossing_0 7 rfl
theorem dc_Dr_isCrossing_12 : decode cd_Dr_isCrossing 12 = .ok (.aload_n 0, 1) := dq_at (q := (12, .aload_n 0, 1)) dm_Dr_isCrossing_0 8 rfl
theorem dc_Dr_isCrossing_13 : decode cd_Dr_isCrossing 13 = .ok (.getfield 15, 3) := dq_at (q := (13, .getfield 15, 3)) dm_Dr_isCrossing_0 9 rfl
theorem dc_Dr_isCrossing_16 : decode cd_Dr_isCrossing 16 = .ok (.iload_n 2, 1) := dq_at (q := (16, .iload_n 2, 1)) dm_Dr_isCrossing_0 10 rfl
theorem dc_Dr_isCrossing_17 : decode cd_Dr_isCrossing 17 = .ok (.iaload, 1) := dq_at (q := (17, .iaload, 1)) dm_Dr_isCrossing_0 11 rfl
theorem dc_Dr_isCrossing_18 : decode cd_Dr_isCrossing 18 = .ok (.iload_n 1, 1) := dq_at (q := (18, .iload_n 1, 1)) dm_Dr_isCrossing_0 12 rfl
theorem dc_Dr_isCrossing_19 : decode cd_Dr_isCrossing 19 = .ok (.invokevirtual 73, 3) := dq_at (q := (19, .invokevirtual 73, 3)) dm_Dr_isCrossing_0 13 rfl
theorem dc_Dr_isCrossing_22 : decode cd_Dr_isCrossing 22 = .ok (.if_icmp .eq 7, 3) := dq_at (q := (22, .if_icmp .eq 7, 3)) dm_Dr_isCrossing_0 14 rfl
theorem dc_Dr_isCrossing_25 : decode cd_Dr_isCrossing 25 = .ok (.iconst 1, 1) := dq_at (q := (25, .iconst 1, 1)) dm_Dr_isCrossing_0 15 rfl
theorem dc_Dr_isCrossing_26 : decode cd_Dr_isCrossing 26 = .ok (.goto 4, 3) := dq_at (q := (26, .goto 4, 3)) dm_Dr_isCrossing_0 16 rfl
theorem dc_Dr_isCrossing_29 : decode cd_Dr_isCrossing 29 = .ok (.iconst 0, 1) := dq_at (q := (29, .iconst 0, 1)) dm_Dr_isCrossing_0 17 rfl
theorem dc_Dr_isCrossing_30 : decode cd_Dr_isCrossing 30 = .ok (.ireturn, 1) := dq_at (q := (30, .ireturn, 1)) dm_Dr_isCrossing_0 18 rfl
