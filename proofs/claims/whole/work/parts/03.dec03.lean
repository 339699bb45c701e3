def dl_Mo_distanceOf_0 : List (Nat × Instr × Nat) := [(0, .aload_n 0, 1), (1, .invokevirtual 117, 3), (4, .aload_n 0, 1), (5, .aload_n 1, 1), (6, .iload_n 2, 1), (7, .aload_n 3, 1), (8, .iload 4, 2), (10, .invokevirtual 120, 3), (13, .aload_n 0, 1), (14, .getfield 34, 3), (17, .aload_n 0, 1), (18, .getfield 95, 3), (21, .aload_n 0, 1), (22, .aload_n 0, 1), (23, .getfield 45, 3), (26, .invokevirtual 113, 3), (29, .iadd, 1), (30, .iaload, 1), (31, .ireturn, 1)]
theorem dm_Mo_distanceOf_0 : dl_Mo_distanceOf_0.all (fun q => decide (decode cd_Mo_distanceOf q.1 = .ok (q.2.1, q.2.2))) = true := by decide +kernel
theorem dc_Mo_distanceOf_0 : decode cd_Mo_distanceOf 0 = .ok (.aload_n 0, 1) := dq_at (q := (0, .aload_n 0, 1)) dm_Mo_distanceOf_0 0 rfl
theorem dc_Mo_distanceOf_1 : decode cd_Mo_distanceOf 1 = .ok (.invokevirtual 117, 3) := dq_at (q := (1, .invokevirtual 117, 3)) dm_Mo_distanceOf_0 1 rfl
theorem dc_Mo_distanceOf_4 : decode cd_Mo_distanceOf 4 = .ok (.aload_n 0, 1) := dq_at (q := (4, .aload_n 0, 1)) dm_Mo_distanceOf_0 2 rfl
theorem dc_Mo_distanceOf_5 : decode cd_Mo_distanceOf 5 = .ok (.aload_n 1, 1) := dq_at (q := (5, .aload_n 1, 1)) dm_Mo_distanceOf_0 3 rfl
theorem dc_Mo_distanceOf_6 : decode cd_Mo_distanceOf 6 = .ok (.iload_n 2, 1) := dq_at (q := (6, .iload_n 2, 1)) dm_Mo_distanceOf_0 4 rfl
theorem dc_Mo_distanceOf_7 : decode cd_Mo_distanceOf 7 = .ok (.aload_n 3, 1) := dq_at (q := (7, .aload_n 3, 1)) dm_Mo_distanceOf_0 5 rfl
theorem dc_Mo_distanceOf_8 : decode cd_Mo_distanceOf 8 = .ok (.iload 4, 2) := dq_at (q := (8, .iload 4, 2)) dm_Mo_distanceOf_0 6 rfl
theorem dc_Mo_distanceOf_10 : decode cd_Mo_distanceOf 10 = .ok (.invokevirtual 120, 3) := dq_at (q := (10, .invokevirtual 120, 3)) dm_Mo_distanceOf_0 7 rfl
theorem dc_Mo_distanceOf_13 : decode cd_Mo_distanceOf 13 = .ok (.aload_n 0, 1) := dq_at (q := (13, .aload_n 0, 1)) dm_Mo_distanceOf_0 8 rfl
theorem dc_Mo_distanceOf_14 : decode cd_Mo_distanceOf 14 = .ok (.getfield 34, 3) := dq_at (q := (14, .getfield 34, 3)) dm_Mo_distanceOf_0 9 rfl
theorem dc_Mo_distanceOf_17 : decode cd_Mo_distanceOf 17 = .ok (.aload_n 0, 1) := dq_at (q := (17, .aload_n 0, 1)) dm_Mo_distanceOf_0 10 rfl
theorem dc_Mo_distanceOf_18 : decode cd_Mo_distanceOf 18 = .ok (.getfield 95, 3) := dq_at (q := (18, .getfield 95, 3)) dm_Mo_distanceOf_0 11 rfl
theorem dc_Mo_distanceOf_21 : decode cd_Mo_distanceOf 21 = .ok (.aload_n 0, 1) := dq_at (q := (21, .aload_n 0, 1)) dm_Mo_distanceOf_0 12 rfl
theorem dc_Mo_distanceOf_22 : decode cd_Mo_distanceOf 22 = .ok (.aload_n 0, 1) := dq_at (q := (22, .aload_n 0, 1)) dm_Mo_distanceOf_0 13 rfl
theorem dc_Mo_distanceOf_23 : decode cd_Mo_distanceOf 23 = .ok (.getfield 45, 3) := dq_at (q := (23, .getfield 45, 3)) dm_Mo_distanceOf_0 14 rfl
theorem dc_Mo_distanceOf_26 : decode cd_Mo_distanceOf 26 = .ok (.invokevirtual 113, 3) := dq_at (q := (26, .invokevirtual 113, 3)) dm_Mo_distanceOf_0 15 rfl
theorem dc_Mo_distanceOf_29 : decode cd_Mo_distanceOf 29 = .ok (.iadd, 1) := dq_at (q := (29, .iadd, 1)) dm_Mo_distanceOf_0 16 rfl
theorem dc_Mo_distanceOf_30 : decode cd_Mo_distanceOf 30 = .ok (.iaload, 1) := dq_at (q := (30, .iaload, 1)) dm_Mo_distanceOf_0 17 rfl
theorem dc_Mo_distanceOf_31 : decode cd_Mo_distanceOf 31 = .ok (.ireturn, 1) := dq_at (q := (31, .ireturn, 1)) dm_Mo_distanceOf_0 18 rfl
def dl_Mo_distance_0 : List (Nat × Instr × Nat) := [(0, .aload_n 0, 1), (1, .iload_n 1, 1), (2, .invokestatic 87, 3), (5, .ifCond .ne 10, 3), (8, .iload_n 2, 1), (9, .invokestatic 87, 3), (12, .ifCond .eq 7, 3), (15, .iconst 1, 1), (16, .goto 4, 3), (19, .iconst 0, 1), (20, .putfield 75, 3), (23, .aload_n 0, 1), (24, .getfield 75, 3), (27, .ifCond .le 7, 3), (30, .iconst 0, 1), (31, .goto 23, 3), (34, .aload_n 0, 1), (35, .aload_n 0, 1), (36, .getfield 13, 3), (39, .bipush 6, 2), (41, .iload_n 1, 1), (42, .imul, 1), (43, .aload_n 0, 1), (44, .getfield 13, 3), (47, .bipush 6, 2), (49, .iload_n 2, 1), (50, .imul, 1), (51, .invokevirtual 124, 3), (54, .ireturn, 1)]
theorem dm_Mo_distance_0 : dl_Mo_distance_0.all (fun q => decide (decode cd_Mo_distance q.1 = .ok (q.2.1, q.2.2))) = true := by decide +kernel
theorem dc_Mo_distance_0 : decode cd_Mo_distance 0 = .ok (.aload_n 0, 1) := dq_at (q := (0, .aload_n 0, 1)) dm_Mo_distance_0 0 rfl
theorem dc_Mo_distance_1 : decode cd_Mo_distance 1 = .ok (.iload_n 1, 1) := dq_at (q := (1, .iload_n 1, 1)) dm_Mo_distance_0 1 rfl
theorem dc_Mo_distance_2 : decode cd_Mo_distance 2 = .ok (.invokestatic 87, 3) := dq_at (q := (2, .invokestatic 87, 3)) dm_Mo_distance_0 2 rfl
theorem dc_Mo_distance_5 : decode cd_Mo_distance 5 = .ok (.ifCond .ne 10, 3) := dq_at (q := (5, .ifCond .ne 10, 3)) dm_Mo_distance_0 3 rfl
theorem dc_Mo_distance_8 : decode cd_Mo_distance 8 = .ok (.iload_n 2, 1) := dq_at (q := (8, .iload_n 2, 1)) dm_Mo_distance_0 4 rfl
theorem dc_Mo_distance_9 : decode cd_Mo_distance 9 = .ok (.invokestatic 87, 3) := dq_at (q := (9, .invokestatic 87, 3)) dm_Mo_distance_0 5 rfl
theorem dc_Mo_distance_12 : decode cd_Mo_distance 12 = .ok (.ifCond .eq 7, 3) := dq_at (q := (12, .ifCond .eq 7, 3)) dm_Mo_distance_0 6 rfl
theorem dc_Mo_distance_15 : decode cd_Mo_distance 15 = .ok (.iconst 1, 1) := dq_at (q := (15, .iconst 1, 1)) dm_Mo_distance_0 7 rfl
theorem dc_Mo_distance_16 : decode cd_Mo_distance 16 = .ok (.goto 4, 3) := dq_at (q := (16, .goto 4, 3)) dm_Mo_distance_0 8 rfl
theorem dc_Mo_distance_19 : decode cd_Mo_distance 19 = .ok (.iconst 0, 1) := dq_at (q := (19, .iconst 0, 1)) dm_Mo_distance_0 9 rfl
theorem dc_Mo_distance_20 : decode cd_Mo_distance 20 = .ok (.putfield 75, 3) := dq_at (q := (20, .putfield 75, 3)) dm_Mo_distance_0 10 rfl
theorem dc_Mo_distance_23 : decode cd_Mo_distance 23 = .ok (.aload_n 0, 1) := dq_at (q := (23, .aload_n 0, 1)) dm_Mo_distance_0 11 rfl
theorem dc_Mo_distance_24 : decode cd_Mo_distance 24 = .ok (.getfield 75, 3) := dq_at (q := (24, .getfield 75, 3)) dm_Mo_distance_0 12 rfl
theorem dc_Mo_distance_27 : decode cd_Mo_distance 27 = .ok (.ifCond .le 7, 3) := dq_at (q := (27, .ifCond .le 7, 3)) dm_Mo_distance_0 13 rfl
theorem dc_Mo_distance_30 : decode cd_Mo_distance 30 = .ok (.iconst 0, 1) := dq_at (q := (30, .iconst 0, 1)) dm_Mo_distance_0 14 rfl
theorem dc_Mo_distance_31 : decode cd_Mo_distance 31 = .ok (.goto 23, 3) := dq_at (q := (31, .goto 23, 3)) dm_Mo_distance_0 15 rfl
theorem dc_Mo_distance_34 : decode cd_Mo_distance 34 = .ok (.aload_n 0, 1) := dq_at (q := (34, .aload_n 0, 1)) dm_Mo_distance_0 16 rfl
theorem dc_Mo_distance_35 : decode cd_Mo_distance 35 = .ok (.aload_n 0, 1) := dq_at (q := (35, .aload_n 0, 1)) dm_Mo_distance_0 17 rfl
theorem dc_Mo_distance_36 : decode cd_Mo_distance 36 = .ok (.getfield 13, 3) := dq_at (q := (36, .getfield 13, 3)) dm_Mo_distance_0 18 rfl
theorem dc_Mo_distance_39 : decode cd_Mo_distance 39 = .ok (.bipush 6, 2) := dq_at (q := (39, .bipush 6, 2)) dm_Mo_distance_0 19 rfl
theorem dc_Mo_distance_41 : decode cd_Mo_distance 41 = .ok (.iload_n 1, 1) := dq_at (q := (41, .iload_n 1, 1)) dm_Mo_distance_0 20 rfl
theorem dc_Mo_distance_42 : decode cd_Mo_distance 42 = .ok (.imul, 1) := dq_at (q := (42, .imul, 1)) dm_Mo_distance_0 21 rfl
theorem dc_Mo_distance_43 : decode cd_Mo_distance 43 = .ok (.aload_n 0, 1) := dq_at (q := (43, .aload_n 0, 1)) dm_Mo_distance_0 22 rfl
theorem dc_Mo_distance_44 : decode cd_Mo_distance 44 = .ok (.getfield 13, 3) := dq_at (q := (44, .getfield 13, 3)) dm_Mo_distance_0 23 rfl
theorem dc_Mo_distance_47 : decode cd_Mo_distance 47 = .ok (.bipush 6, 2) := dq_at (q := (47, .bipush 6, 2)) dm_Mo_distance_0 24 rfl
theorem dc_Mo_distance_49 : decode cd_Mo_distance 49 = .ok (.iload_n 2, 1) := dq_at (q := (49, .iload_n 2, 1)) dm_Mo_distance_0 25 rfl
theorem dc_Mo_distance_50 : decode cd_Mo_distance 50 = .ok (.imul, 1) := dq_at (q := (50, .imul, 1)) dm_Mo_distance_0 26 rfl
theorem dc_Mo_distance_51 : decode cd_Mo_distance 51 = .ok (.invokevirtual 124, 3) := dq_at (q := (51, .invokevirtual 124, 3)) dm_Mo_distance_0 27 rfl
theorem dc_Mo_distance_54 : decode cd_Mo_distance 54 = .ok (.ireturn, 1) := dq_at (q := (54, .ireturn, 1)) dm_Mo_distance_0 28 rfl
def dl_Mo_draw_0 : List (Nat × Instr × Nat) := [(0, .aload_n 0, 1), (1, .aload_n 0, 1), (2, .getfield 13, 3), (5, .bipush 6, 2), (7, .iload_n 1, 1), (8, .imul, 1), (9, .aload_n 0, 1), (10, .getfield 13, 3), (13, .bipush 6, 2), (15, .iload_n 2, 1), (16, .imul, 1), (17, .invokevirtual 120, 3), (20, .aload_n 0, 1), (21, .getfield 54, 3), (24, .iconst 0, 1), (25, .iconst 0, 1), (26, .iastore, 1), (27, .aload_n 0, 1), (28, .getfield 54, 3), (31, .iconst 2, 1), (32, .aload_n 0, 1), (33, .getfield 7, 3), (36, .imul, 1), (37, .iconst 1, 1), (38, .iadd, 1), (39, .iconst 2, 1), (40, .aload_n 0, 1), (41, .getfield 7, 3), (44, .imul, 1), (45, .iconst 1, 1), (46, .iadd, 1), (47, .iastore, 1), (48, .iconst 0, 1), (49, .istore_n 3, 1), (50, .iload_n 3, 1), (51, .aload_n 0, 1), (52, .getfield 7, 3), (55, .if_icmp .ge 75, 3), (58, .aload_n 0, 1), (59, .getfield 45, 3), (62, .iload_n 3, 1), (63, .iaload, 1), (64, .istore 4, 2), (66, .aload_n 0, 1), (67, .getfield 54, 3), (70, .iconst 2, 1), (71, .iload_n 3, 1), (72, .imul, 1), (73, .iconst 1, 1), (74, .iadd, 1), (75, .iload 4, 2), (77, .ifCond .le 12, 3), (80, .iconst 2, 1), (81, .iload 4, 2), (83, .imul, 1), (84, .iconst 1, 1), (85, .isub, 1), (86, .goto 8, 3), (89, .bipush (-2), 2), (91, .iload 4, 2)]
theorem dm_Mo_draw_0 : dl_Mo_draw_0.all (fun q => decide (decode cd_Mo_draw q.1 = .ok (q.2.1, q.2.2))) = true := by decide +kernel
theorem dc_Mo_draw_0 : decode cd_Mo_draw 0 = .ok (.aload_n 0, 1) := dq_at (q := (0, .aload_n 0, 1)) dm_Mo_draw_0 0 rfl
theorem dc_Mo_draw_1 : decode cd_Mo_draw 1 = .ok (.aload_n 0, 1) := dq_at (q := (1, .aload_n 0, 1)) dm_Mo_draw_0 1 rfl
theorem dc_Mo_draw_2 : decode cd_Mo_draw 2 = .ok (.getfield 13, 3) := dq_at (q := (2, .getfield 13, 3)) dm_Mo_draw_0 2 rfl
theorem dc_Mo_draw_5 : decode cd_Mo_draw 5 = .ok (.bipush 6, 2) := dq_at (q := (5, .bipush 6, 2)) dm_Mo_draw_0 3 rfl
theorem dc_Mo_draw_7 : decode cd_Mo_draw 7 = .ok (.iload_n 1, 1) := dq_at (q := (7, .iload_n 1, 1)) dm_Mo_draw_0 4 rfl
theorem dc_Mo_draw_8 : decode cd_Mo_draw 8 = .ok (.imul, 1) := dq_at (q := (8, .imul, 1)) dm_Mo_draw_0 5 rfl
theorem dc_Mo_draw_9 : decode cd_Mo_draw 9 = .ok (.aload_n 0, 1) := dq_at (q := (9, .aload_n 0, 1)) dm_Mo_draw_0 6 rfl
theorem dc_Mo_draw_10 : decode cd_Mo_draw 10 = .ok (.getfield 13, 3) := dq_at (q := (10, .getfield 13, 3)) dm_Mo_draw_0 7 rfl
theorem dc_Mo_draw_13 : decode cd_Mo_draw 13 = .ok (.bipush 6, 2) := dq_at (q := (13, .bipush 6, 2)) dm_Mo_draw_0 8 rfl
theorem dc_Mo_draw_15 : decode cd_Mo_draw 15 = .ok (.iload_n 2, 1) := dq_at (q := (15, .iload_n 2, 1)) dm_Mo_draw_0 9 rfl
theorem dc_Mo_draw_16 : decode cd_Mo_draw 16 = .ok (.imul, 1) := dq_at (q := (16, .imul, 1)) dm_Mo_draw_0 10 rfl
theorem dc_Mo_draw_17 : decode cd_Mo_draw 17 = .ok (.invokevirtual 120, 3) := dq_at (q := (17, .invokevirtual 120, 3)) dm_Mo_draw_0 11 rfl
theorem dc_Mo_draw_20 : decode cd_Mo_draw 20 = .ok (.aload_n 0, 1) := dq_at (q := (20, .aload_n 0, 1)) dm_Mo_draw_0 12 rfl
theorem dc_Mo_draw_21 : decode cd_Mo_draw 21 = .ok (.getfield 54, 3) := dq_at (q := (21, .getfield 54, 3)) dm_Mo_draw_0 13 rfl
theorem dc_Mo_draw_24 : decode cd_Mo_draw 24 = .ok (.iconst 0, 1) := dq_at (q := (24, .iconst 0, 1)) dm_Mo_draw_0 14 rfl
theorem dc_Mo_draw_25 : decode cd_Mo_draw 25 = .ok (.iconst 0, 1) := dq_at (q := (25, .iconst 0, 1)) dm_Mo_draw_0 15 rfl
theorem dc_Mo_draw_26 : decode cd_Mo_draw 26 = .ok (.iastore, 1) := dq_at (q := (26, .iastore, 1)) dm_Mo_draw_0 16 rfl
theorem dc_Mo_draw_27 : decode cd_Mo_draw 27 = .ok (.aload_n 0, 1) := dq_at (q := (27, .aload_n 0, 1)) dm_Mo_draw_0 17 rfl
theorem dc_Mo_draw_28 : decode cd_Mo_draw 28 = .ok (.getfield 54, 3) := dq_at (q := (28, .getfield 54, 3)) dm_Mo_draw_0 18 rfl
theorem dc_Mo_draw_31 : decode cd_Mo_draw 31 = .ok (.iconst 2, 1) := dq_at (q := (31, .iconst 2, 1)) dm_Mo_draw_0 19 rfl
theorem dc_Mo_draw_32 : decode cd_Mo_draw 32 = .ok (.aload_n 0, 1) := dq_at (q := (32, .aload_n 0, 1)) dm_Mo_draw_0 20 rfl
theorem dc_Mo_draw_33 : decode cd_Mo_draw 33 = .ok (.getfield 7, 3) := dq_at (q := (33, .getfield 7, 3)) dm_Mo_draw_0 21 rfl
theorem dc_Mo_draw_36 : decode cd_Mo_draw 36 = .ok (.imul, 1) := dq_at (q := (36, .imul, 1)) dm_Mo_draw_0 22 rfl
theorem dc_Mo_draw_37 : decode cd_Mo_draw 37 = .ok (.iconst 1, 1) := dq_at (q := (37, .iconst 1, 1)) dm_Mo_draw_0 23 rfl
theorem dc_Mo_draw_38 : decode cd_Mo_draw 38 = .ok (.iadd, 1) := dq_at (q := (38, .iadd, 1)) dm_Mo_draw_0 24 rfl
theorem dc_Mo_draw_39 : decode cd_Mo_draw 39 = .ok (.iconst 2, 1) := dq_at (q := (39, .iconst 2, 1)) dm_Mo_draw_0 25 rfl
theorem dc_Mo_draw_40 : decode cd_Mo_draw 40 = .ok (.aload_n 0, 1) := dq_at (q := (40, .aload_n 0, 1)) dm_Mo_draw_0 26 rfl
theorem dc_Mo_draw_41 : decode cd_Mo_draw 41 = .ok (.getfield 7, 3) := dq_at (q := (41, .getfield 7, 3)) dm_Mo_draw_0 27 rfl
theorem dc_Mo_draw_44 : decode cd_Mo_draw 44 = .ok (.imul, 1) := dq_at (q := (44, .imul, 1)) dm_Mo_draw_0 28 rfl
theorem dc_Mo_draw_45 : decode cd_Mo_draw 45 = .ok (.iconst 1, 1) := dq_at (q := (45, .iconst 1, 1)) dm_Mo_draw_0 29 rfl
theorem dc_Mo_draw_46 : decode cd_Mo_draw 46 = .ok (.iadd, 1) := dq_at (q := (46, .iadd, 1)) dm_Mo_draw_0 30 rfl
theorem dc_Mo_draw_47 : decode cd_Mo_draw 47 = .ok (.iastore, 1) := dq_at (q := (47, .iastore, 1)) dm_Mo_draw_0 31 rfl
theorem dc_Mo_draw_48 : decode cd_Mo_draw 48 = .ok (.iconst 0, 1) := dq_at (q := (48, .iconst 0, 1)) dm_Mo_draw_0 32 rfl
theorem dc_Mo_draw_49 : decode cd_Mo_draw 49 = .ok (.istore_n 3, 1) := dq_at (q := (49, .istore_n 3, 1)) dm_Mo_draw_0 33 rfl
theorem dc_Mo_draw_50 : decode cd_Mo_draw 50 = .ok (.iload_n 3, 1) := dq_at (q := (50, .iload_n 3, 1)) dm_Mo_draw_0 34 rfl
theorem dc_Mo_draw_51 : decode cd_Mo_draw 51 = .ok (.aload_n 0, 1) := dq_at (q := (51, .aload_n 0, 1)) dm_Mo_draw_0 35 rfl
theorem dc_Mo_draw_52 : decode cd_Mo_draw 52 = .ok (.getfield 7, 3) := dq_at (q := (52, .getfield 7, 3)) dm_Mo_draw_0 36 rfl
theorem dc_Mo_draw_55 : decode cd_Mo_draw 55 = .ok (.if_icmp .ge 75, 3) := dq_at (q := (55, .if_icmp .ge 75, 3)) dm_Mo_draw_0 37 rfl
theorem dc_Mo_draw_58 : decode cd_Mo_draw 58 = .ok (.aload_n 0, 1) := dq_at (q := (58, .aload_n 0, 1)) dm_Mo_draw_0 38 rfl
theorem dc_Mo_draw_59 : decode cd_Mo_draw 59 = .ok (.getfield 45, 3) := dq_at (q := (59, .getfield 45, 3)) dm_Mo_draw_0 39 rfl
theorem dc_Mo_draw_62 : decode cd_Mo_draw 62 = .ok (.iload_n 3, 1) := dq_at (q := (62, .iload_n 3, 1)) dm_Mo_draw_0 40 rfl
theorem dc_Mo_draw_63 : decode cd_Mo_draw 63 = .ok (.iaload, 1) := dq_at (q := (63, .iaload, 1)) dm_Mo_draw_0 41 rfl
theorem dc_Mo_draw_64 : decode cd_Mo_draw 64 = .ok (.istore 4, 2) := dq_at (q := (64, .istore 4, 2)) dm_Mo_draw_0 42 rfl
theorem dc_Mo_draw_66 : decode cd_Mo_draw 66 = .ok (.aload_n 0, 1) := dq_at (q := (66, .aload_n 0, 1)) dm_Mo_draw_0 43 rfl
theorem dc_Mo_draw_67 : decode cd_Mo_draw 67 = .ok (.getfield 54, 3) := dq_at (q := (67, .getfield 54, 3)) dm_Mo_draw_0 44 rfl
theorem dc_Mo_draw_70 : decode cd_Mo_draw 70 = .ok (.iconst 2, 1) := dq_at (q := (70, .iconst 2, 1)) dm_Mo_draw_0 45 rfl
theorem dc_Mo_draw_71 : decode cd_Mo_draw 71 = .ok (.iload_n 3, 1) := dq_at (q := (71, .iload_n 3, 1)) dm_Mo_draw_0 46 rfl
theorem dc_Mo_draw_72 : decode cd_Mo_draw 72 = .ok (.imul, 1) := dq_at (q := (72, .imul, 1)) dm_Mo_draw_0 47 rfl
theorem dc_Mo_draw_73 : decode cd_Mo_draw 73 = .ok (.iconst 1, 1) := dq_at (q := (73, .iconst 1, 1)) dm_Mo_draw_0 48 rfl
theorem dc_Mo_draw_74 : decode cd_Mo_draw 74 = .ok (.iadd, 1) := dq_at (q := (74, .iadd, 1)) dm_Mo_draw_0 49 rfl
theorem dc_Mo_draw_75 : decode cd_Mo_draw 75 = .ok (.iload 4, 2) := dq_at (q := (75, .iload 4, 2)) dm_Mo_draw_0 50 rfl
theorem dc_Mo_draw_77 : decode cd_Mo_draw 77 = .ok (.ifCond .le 12, 3) := dq_at (q := (77, .ifCond .le 12, 3)) dm_Mo_draw_0 51 rfl
theorem dc_Mo_draw_80 : decode cd_Mo_draw 80 = .ok (.iconst 2, 1) := dq_at (q := (80, .iconst 2, 1)) dm_Mo_draw_0 52 rfl
theorem dc_Mo_draw_81 : decode cd_Mo_draw 81 = .ok (.iload 4, 2) := dq_at (q := (81, .iload 4, 2)) dm_Mo_draw_0 53 rfl
theorem dc_Mo_draw_83 : decode cd_Mo_draw 83 = .ok (.imul, 1) := dq_at (q := (83, .imul, 1)) dm_Mo_draw_0 54 rfl
theorem dc_Mo_draw_84 : decode cd_Mo_draw 84 = .ok (.iconst 1, 1) := dq_at (q := (84, .iconst 1, 1)) dm_Mo_draw_0 55 rfl
theorem dc_Mo_draw_85 : decode cd_Mo_draw 85 = .ok (.isub, 1) := dq_at (q := (85, .isub, 1)) dm_Mo_draw_0 56 rfl
theorem dc_Mo_draw_86 : decode cd_Mo_draw 86 = .ok (.goto 8, 3) := dq_at (q := (86, .goto 8, 3)) dm_Mo_draw_0 57 rfl
theorem dc_Mo_draw_89 : decode cd_Mo_draw 89 = .ok (.bipush (-2), 2) := dq_at (q := (89, .bipush (-2), 2)) dm_Mo_draw_0 58 rfl
theorem dc_Mo_draw_91 : decode cd_Mo_draw 91 = .ok (.iload 4, 2) := dq_at (q := (91, .iload 4, 2)) dm_Mo_draw_0 59 rfl
def dl_Mo_draw_60 : List (Nat × Instr × Nat) := [(93, .imul, 1), (94, .iastore, 1), (95, .aload_n 0, 1), (96, .getfield 54, 3), (99, .iconst 2, 1), (100, .iload_n 3, 1), (101, .imul, 1), (102, .iconst 2, 1), (103, .iadd, 1), (104, .iload 4, 2), (106, .ifCond .le 10, 3), (109, .iconst 2, 1), (110, .iload 4, 2), (112, .imul, 1), (113, .goto 10, 3), (116, .bipush (-2), 2), (118, .iload 4, 2), (120, .imul, 1), (121, .iconst 1, 1), (122, .isub, 1), (123, .iastore, 1), (124, .iinc 3 1, 3), (127, .goto (-77), 3), (130, .iconst 0, 1), (131, .istore_n 3, 1), (132, .iload_n 3, 1), (133, .iconst 2, 1), (134, .aload_n 0, 1), (135, .getfield 7, 3), (138, .imul, 1), (139, .iconst 1, 1), (140, .iadd, 1), (141, .if_icmp .gt 21, 3), (144, .aload_n 0, 1), (145, .getfield 57, 3), (148, .aload_n 0, 1), (149, .getfield 54, 3), (152, .iload_n 3, 1), (153, .iaload, 1), (154, .iload_n 3, 1), (155, .iastore, 1), (156, .iinc 3 1, 3), (159, .goto (-27), 3), (162, .return_, 1)]
theorem dm_Mo_draw_60 : dl_Mo_draw_60.all (fun q => decide (decode cd_Mo_draw q.1 = .ok (q.2.1, q.2.2))) = true := by decide +kernel
theorem dc_Mo_draw_93 : decode cd_Mo_draw 93 = .ok (.imul, 1) := dq_at (q := (93, .imul, 1)) dm_Mo_draw_60 0 rfl
theorem dc_Mo_draw_94 : decode cd_Mo_draw 94 = .ok (.iastore, 1) := dq_at (q := (94, .iastore, 1)) dm_Mo_draw_60 1 rfl
theorem dc_Mo_draw_95 : decode cd_Mo_draw 95 = .ok (.aload_n 0, 1) := dq_at (q := (95, .aload_n 0, 1)) dm_Mo_draw_60 2 rfl
theorem dc_Mo_draw_96 : decode cd_Mo_draw 96 = .ok (.getfield 54, 3) := dq_at (q := (96, .getfield 54, 3)) dm_Mo_draw_60 3 rfl
theorem dc_Mo_draw_99 : decode cd_Mo_draw 99 = .ok (.iconst 2, 1) := dq_at (q := (99, .iconst 2, 1)) dm_Mo_draw_60 4 rfl
theorem dc_Mo_draw_100 : decode cd_Mo_draw 100 = .ok (.iload_n 3, 1) := dq_at (q := (100, .iload_n 3, 1)) dm_Mo_draw_60 5 rfl
theorem dc_Mo_draw_101 : decode cd_Mo_draw 101 = .ok (.imul, 1) := dq_at (q := (101, .imul, 1)) dm_Mo_draw_60 6 rfl
theorem dc_Mo_draw_102 : decode cd_Mo_draw 102 = .ok (.iconst 2, 1) := dq_at (q := (102, .iconst 2, 1)) dm_Mo_draw_60 7 rfl
theorem dc_Mo_draw_103 : decode cd_Mo_draw 103 = .ok (.iadd, 1) := dq_at (q := (103, .iadd, 1)) dm_Mo_draw_60 8 rfl
theorem dc_Mo_draw_104 : decode cd_Mo_draw 104 = .ok (.iload 4, 2) := dq_at (q := (104, .iload 4, 2)) dm_Mo_draw_60 9 rfl
theorem dc_Mo_draw_106 : decode cd_Mo_draw 106 = .ok (.ifCond .le 10, 3) := dq_at (q := (106, .ifCond .le 10, 3)) dm_Mo_draw_60 10 rfl
theorem dc_Mo_draw_109 : decode cd_Mo_draw 109 = .ok (.iconst 2, 1) := dq_at (q := (109, .iconst 2, 1)) dm_Mo_draw_60 11 rfl
theorem dc_Mo_draw_110 : decode cd_Mo_draw 110 = .ok (.iload 4, 2) := dq_at (q := (110, .iload 4, 2)) dm_Mo_draw_60 12 rfl
theorem dc_Mo_draw_112 : decode cd_Mo_draw 112 = .ok (.imul, 1) := dq_at (q := (112, .imul, 1)) dm_Mo_draw_60 13 rfl
theorem dc_Mo_draw_113 : decode cd_Mo_draw 113 = .ok (.goto 10, 3) := dq_at (q := (113, .goto 10, 3)) dm_Mo_draw_60 14 rfl
theorem dc_Mo_draw_116 : decode cd_Mo_draw 116 = .ok (.bipush (-2), 2) := dq_at (q := (116, .bipush (-2), 2)) dm_Mo_draw_60 15 rfl
theorem dc_Mo_draw_118 : decode cd_Mo_draw 118 = .ok (.iload 4, 2) := dq_at (q := (118, .iload 4, 2)) dm_Mo_draw_60 16 rfl
theorem dc_Mo_draw_120 : decode cd_Mo_draw 120 = .ok (.imul, 1) := dq_at (q := (120, .imul, 1)) dm_Mo_draw_60 17 rfl
theorem dc_Mo_draw_121 : decode cd_Mo_draw 121 = .ok (.iconst 1, 1) := dq_at (q := (121, .iconst 1, 1)) dm_Mo_draw_60 18 rfl
theorem dc_Mo_draw_122 : decode cd_Mo_draw 122 = .ok (.isub, 1) := dq_at (q := (122, .isub, 1)) dm_Mo_draw_60 19 rfl
theorem dc_Mo_draw_123 : decode cd_Mo_draw 123 = .ok (.iastore, 1) := dq_at (q := (123, .iastore, 1)) dm_Mo_draw_60 20 rfl
theorem dc_Mo_draw_124 : decode cd_Mo_draw 124 = .ok (.iinc 3 1, 3) := dq_at (q := (124, .iinc 3 1, 3)) dm_Mo_draw_60 21 rfl
theorem dc_Mo_draw_127 : decode cd_Mo_draw 127 = .ok (.goto (-77), 3) := dq_at (q := (127, .goto (-77), 3)) dm_Mo_draw_60 22 rfl
theorem dc_Mo_draw_130 : decode cd_Mo_draw 130 = .ok (.iconst 0, 1) := dq_at (q := (130, .iconst 0, 1)) dm_Mo_draw_60 23 rfl
theorem dc_Mo_draw_131 : decode cd_Mo_draw 131 = .ok (.istore_n 3, 1) := dq_at (q := (131, .istore_n 3, 1)) dm_Mo_draw_60 24 rfl
theorem dc_Mo_draw_132 : decode cd_Mo_draw 132 = .ok (.iload_n 3, 1) := dq_at (q := (132, .iload_n 3, 1)) dm_Mo_draw_60 25 rfl
theorem dc_Mo_draw_133 : decode cd_Mo_draw 133 = .ok (.iconst 2, 1) := dq_at (q := (133, .iconst 2, 1)) dm_Mo_draw_60 26 rfl
theorem dc_Mo_draw_134 : decode cd_Mo_draw 134 = .ok (.aload_n 0, 1) := dq_at (q := (134, .aload_n 0, 1)) dm_Mo_draw_60 27 rfl
theorem dc_Mo_draw_135 : decode cd_Mo_draw 135 = .ok (.getfield 7, 3) := dq_at (q := (135, .getfield 7, 3)) dm_Mo_draw_60 28 rfl
theorem dc_Mo_draw_138 : decode cd_Mo_draw 138 = .ok (.imul, 1) := dq_at (q := (138, .imul, 1)) dm_Mo_draw_60 29 rfl
theorem dc_Mo_draw_139 : decode cd_Mo_draw 139 = .ok (.iconst 1, 1) := dq_at (q := (139, .iconst 1, 1)) dm_Mo_draw_60 30 rfl
theorem dc_Mo_draw_140 : decode cd_Mo_draw 140 = .ok (.iadd, 1) := dq_at (q := (140, .iadd, 1)) dm_Mo_draw_60 31 rfl
theorem dc_Mo_draw_141 : decode cd_Mo_draw 141 = .ok (.if_icmp .gt 21, 3) := dq_at (q := (141, .if_icmp .gt 21, 3)) dm_Mo_draw_60 32 rfl
theorem dc_Mo_draw_144 : decode cd_Mo_draw 144 = .ok (.aload_n 0, 1) := dq_at (q := (144, .aload_n 0, 1)) dm_Mo_draw_60 33 rfl
theorem dc_Mo_draw_145 : decode cd_Mo_draw 145 = .ok (.getfield 57, 3) := dq_at (q := (145, .getfield 57, 3)) dm_Mo_draw_60 34 rfl
theorem dc_Mo_draw_148 : decode cd_Mo_draw 148 = .ok (.aload_n 0, 1) := dq_at (q := (148, .aload_n 0, 1)) dm_Mo_draw_60 35 rfl
theorem dc_Mo_draw_149 : decode cd_Mo_draw 149 = .ok (.getfield 54, 3) := dq_at (q := (149, .getfield 54, 3)) dm_Mo_draw_60 36 rfl
theorem dc_Mo_draw_152 : decode cd_Mo_draw 152 = .ok (.iload_n 3, 1) := dq_at (q := (152, .iload_n 3, 1)) dm_Mo_draw_60 37 rfl
theorem dc_Mo_draw_153 : decode cd_Mo_draw 153 = .ok (.iaload, 1) := dq_at (q := (153, .iaload, 1)) dm_Mo_draw_60 38 rfl
theorem dc_Mo_draw_154 : decode cd_Mo_draw 154 = .ok (.iload_n 3, 1) := dq_at (q := (154, .iload_n 3, 1)) dm_Mo_draw_60 39 rfl
theorem dc_Mo_draw_155 : decode cd_Mo_draw 155 = .ok (.iastore, 1) := dq_at (q := (155, .iastore, 1)) dm_Mo_draw_60 40 rfl
theorem dc_Mo_draw_156 : decode cd_Mo_draw 156 = .ok (.iinc 3 1, 3) := dq_at (q := (156, .iinc 3 1, 3)) dm_Mo_draw_60 41 rfl
theorem dc_Mo_draw_159 : decode cd_Mo_draw 159 = .ok (.goto (-27), 3) := dq_at (q := (159, .goto (-27), 3)) dm_Mo_draw_60 42 rfl
theorem dc_Mo_draw_162 : decode cd_Mo_draw 162 = .ok (.return_, 1) := dq_at (q := (162, .return_, 1)) dm_Mo_draw_60 43 rfl
def dl_Mo_low_0 : List (Nat × Instr × Nat) := [(0, .aload_n 0, 1), (1, .getfield 57, 3), (4, .iconst 2, 1), (5, .iload_n 1, 1), (6, .imul, 1), (7, .iaload, 1), (8, .aload_n 0, 1), (9, .getfield 57, 3), (12, .iconst 2, 1), (13, .iload_n 1, 1), (14, .imul, 1), (15, .iconst 1, 1), (16, .iadd, 1), (17, .iaload, 1), (18, .if_icmp .ge 14, 3), (21, .aload_n 0, 1), (22, .getfield 57, 3), (25, .iconst 2, 1), (26, .iload_n 1, 1), (27, .imul, 1), (28, .iaload, 1), (29, .goto 13, 3), (32, .aload_n 0, 1), (33, .getfield 57, 3), (36, .iconst 2, 1), (37, .iload_n 1, 1), (38, .imul, 1), (39, .iconst 1, 1), (40, .iadd, 1), (41, .iaload, 1), (42, .ireturn, 1)]
theorem dm_Mo_low_0 : dl_Mo_low_0.all (fun q => decide (decode cd_Mo_low q.1 = .ok (q.2.1, q.2.2))) = true := by decide +kernel
theorem dc_Mo_low_0 : decode cd_Mo_low 0 = .ok (.aload_n 0, 1) := dq_at (q := (0, .aload_n 0, 1)) dm_Mo_low_0 0 rfl
theorem dc_Mo_low_1 : decode cd_Mo_low 1 = .ok (.getfield 57, 3) := dq_at (q := (1, .getfield 57, 3)) dm_Mo_low_0 1 rfl
theorem dc_Mo_low_4 : decode cd_Mo_low 4 = .ok (.iconst 2, 1) := dq_at (q := (4, .iconst 2, 1)) dm_Mo_low_0 2 rfl
theorem dc_Mo_low_5 : decode cd_Mo_low 5 = .ok (.iload_n 1, 1) := dq_at (q := (5, .iload_n 1, 1)) dm_Mo_low_0 3 rfl
theorem dc_Mo_low_6 : decode cd_Mo_low 6 = .ok (.imul, 1) := dq_at (q := (6, .imul, 1)) dm_Mo_low_0 4 rfl
theorem dc_Mo_low_7 : decode cd_Mo_low 7 = .ok (.iaload, 1) := dq_at (q := (7, .iaload, 1)) dm_Mo_low_0 5 rfl
theorem dc_Mo_low_8 : decode cd_Mo_low 8 = .ok (.aload_n 0, 1) := dq_at (q := (8, .aload_n 0, 1)) dm_Mo_low_0 6 rfl
theorem dc_Mo_low_9 : decode cd_Mo_low 9 = .ok (.getfield 57, 3) := dq_at (q := (9, .getfield 57, 3)) dm_Mo_low_0 7 rfl
theorem dc_Mo_low_12 : decode cd_Mo_low 12 = .ok (.iconst 2, 1) := dq_at (q := (12, .iconst 2, 1)) dm_Mo_low_0 8 rfl
theorem dc_Mo_low_13 : decode cd_Mo_low 13 = .ok (.iload_n 1, 1) := dq_at (q := (13, .iload_n 1, 1)) dm_Mo_low_0 9 rfl
theorem dc_Mo_low_14 : decode cd_Mo_low 14 = .ok (.imul, 1) := dq_at (q := (14, .imul, 1)) dm_Mo_low_0 10 rfl
theorem dc_Mo_low_15 : decode cd_Mo_low 15 = .ok (.iconst 1, 1) := dq_at (q := (15, .iconst 1, 1)) dm_Mo_low_0 11 rfl
theorem dc_Mo_low_16 : decode cd_Mo_low 16 = .ok (.iadd, 1) := dq_at (q := (16, .iadd, 1)) dm_Mo_low_0 12 rfl
theorem dc_Mo_low_17 : decode cd_Mo_low 17 = .ok (.iaload, 1) := dq_at (q := (17, .iaload, 1)) dm_Mo_low_0 13 rfl
theorem dc_Mo_low_18 : decode cd_Mo_low 18 = .ok (.if_icmp .ge 14, 3) := dq_at (q := (18, .if_icmp .ge 14, 3)) dm_Mo_low_0 14 rfl
theorem dc_Mo_low_21 : decode cd_Mo_low 21 = .ok (.aload_n 0, 1) := dq_at (q := (21, .aload_n 0, 1)) dm_Mo_low_0 15 rfl
theorem dc_Mo_low_22 : decode cd_Mo_low 22 = .ok (.getfield 57, 3) := dq_at (q := (22, .getfield 57, 3)) dm_Mo_low_0 16 rfl
theorem dc_Mo_low_25 : decode cd_Mo_low 25 = .ok (.iconst 2, 1) := dq_at (q := (25, .iconst 2, 1)) dm_Mo_low_0 17 rfl
theorem dc_Mo_low_26 : decode cd_Mo_low 26 = .ok (.iload_n 1, 1) := dq_at (q := (26, .iload_n 1, 1)) dm_Mo_low_0 18 rfl
theorem dc_Mo_low_27 : decode cd_Mo_low 27 = .ok (.imul, 1) := dq_at (q := (27, .imul, 1)) dm_Mo_low_0 19 rfl
theorem dc_Mo_low_28 : decode cd_Mo_low 28 = .ok (.iaload, 1) := dq_at (q := (28, .iaload, 1)) dm_Mo_low_0 20 rfl
theorem dc_Mo_low_29 : decode cd_Mo_low 29 = .ok (.goto 13, 3) := dq_at (q := (29, .goto 13, 3)) dm_Mo_low_0 21 rfl
theorem dc_Mo_low_32 : decode cd_Mo_low 32 = .ok (.aload_n 0, 1) := dq_at (q := (32, .aload_n 0, 1)) dm_Mo_low_0 22 rfl
theorem dc_Mo_low_33 : decode cd_Mo_low 33 = .ok (.getfield 57, 3) := dq_at (q := (33, .getfield 57, 3)) dm_Mo_low_0 23 rfl
theorem dc_Mo_low_36 : decode cd_Mo_low 36 = .ok (.iconst 2, 1) := dq_at (q := (36, .iconst 2, 1)) dm_Mo_low_0 24 rfl
theorem dc_Mo_low_37 : decode cd_Mo_low 37 = .ok (.iload_n 1, 1) := dq_at (q := (37, .iload_n 1, 1)) dm_Mo_low_0 25 rfl
theorem dc_Mo_low_38 : decode cd_Mo_low 38 = .ok (.imul, 1) := dq_at (q := (38, .imul, 1)) dm_Mo_low_0 26 rfl
theorem dc_Mo_low_39 : decode cd_Mo_low 39 = .ok (.iconst 1, 1) := dq_at (q := (39, .iconst 1, 1)) dm_Mo_low_0 27 rfl
theorem dc_Mo_low_40 : decode cd_Mo_low 40 = .ok (.iadd, 1) := dq_at (q := (40, .iadd, 1)) dm_Mo_low_0 28 rfl
theorem dc_Mo_low_41 : decode cd_Mo_low 41 = .ok (.iaload, 1) := dq_at (q := (41, .iaload, 1)) dm_Mo_low_0 29 rfl
theorem dc_Mo_low_42 : decode cd_Mo_low 42 = .ok (.ireturn, 1) := dq_at (q := (42, .ireturn, 1)) dm_Mo_low_0 30 rfl
def dl_Mo_high_0 : List (Nat × Instr × Nat) := [(0, .aload_n 0, 1), (1, .getfield 57, 3), (4, .iconst 2, 1), (5, .iload_n 1, 1), (6, .imul, 1), (7, .iaload, 1), (8, .aload_n 0, 1), (9, .getfield 57, 3), (12, .iconst 2, 1), (13, .iload_n 1, 1), (14, .imul, 1), (15, .iconst 1, 1), (16, .iadd, 1), (17, .iaload, 1), (18, .if_icmp .ge 16, 3), (21, .aload_n 0, 1), (22, .getfield 57, 3), (25, .iconst 2, 1), (26, .iload_n 1, 1), (27, .imul, 1), (28, .iconst 1, 1), (29, .iadd, 1), (30, .iaload, 1), (31, .goto 11, 3), (34, .aload_n 0, 1), (35, .getfield 57, 3), (38, .iconst 2, 1), (39, .iload_n 1, 1), (40, .imul, 1), (41, .iaload, 1), (42, .ireturn, 1)]
theorem dm_Mo_high_0 : dl_Mo_high_0.all (fun q => decide (decode cd_Mo_high q.1 = .ok (q.2.1, q.2.2))) = true := by decide +kernel
theorem dc_Mo_high_0 : decode cd_Mo_high 0 = .ok (.aload_n 0, 1) := dq_at (q := (0, .aload_n 0, 1)) dm_Mo_high_0 0 rfl
theorem dc_Mo_high_1 : decode cd_Mo_high 1 = .ok (.getfield 57, 3) := dq_at (q := (1, .getfield 57, 3)) dm_Mo_high_0 1 rfl
theorem dc_Mo_high_4 : decode cd_Mo_high 4 = .ok (.iconst 2, 1) := dq_at (q := (4, .iconst 2, 1)) dm_Mo_high_0 2 rfl
theorem dc_Mo_high_5 : decode cd_Mo_high 5 = .ok (.iload_n 1, 1) := dq_at (q := (5, .iload_n 1, 1)) dm_Mo_high_0 3 rfl
theorem dc_Mo_high_6 : decode cd_Mo_high 6 = .ok (.imul, 1) := dq_at (q := (6, .imul, 1)) dm_Mo_high_0 4 rfl
theorem dc_Mo_high_7 : decode cd_Mo_high 7 = .ok (.iaload, 1) := dq_at (q := (7, .iaload, 1)) dm_Mo_high_0 5 rfl
theorem dc_Mo_high_8 : decode cd_Mo_high 8 = .ok (.aload_n 0, 1) := dq_at (q := (8, .aload_n 0, 1)) dm_Mo_high_0 6 rfl
theorem dc_Mo_high_9 : decode cd_Mo_high 9 = .ok (.getfield 57, 3) := dq_at (q := (9, .getfield 57, 3)) dm_Mo_high_0 7 rfl
theorem dc_Mo_high_12 : decode cd_Mo_high 12 = .ok (.iconst 2, 1) := dq_at (q := (12, .iconst 2, 1)) dm_Mo_high_0 8 rfl
theorem dc_Mo_high_13 : decode cd_Mo_high 13 = .ok (.iload_n 1, 1) := dq_at (q := (13, .iload_n 1, 1)) dm_Mo_high_0 9 rfl
theorem dc_Mo_high_14 : decode cd_Mo_high 14 = .ok (.imul, 1) := dq_at (q := (14, .imul, 1)) dm_Mo_high_0 10 rfl
theorem dc_Mo_high_15 : decode cd_Mo_high 15 = .ok (.iconst 1, 1) := dq_at (q := (15, .iconst 1, 1)) dm_Mo_high_0 11 rfl
theorem dc_Mo_high_16 : decode cd_Mo_high 16 = .ok (.iadd, 1) := dq_at (q := (16, .iadd, 1)) dm_Mo_high_0 12 rfl
theorem dc_Mo_high_17 : decode cd_Mo_high 17 = .ok (.iaload, 1) := dq_at (q := (17, .iaload, 1)) dm_Mo_high_0 13 rfl
theorem dc_Mo_high_18 : decode cd_Mo_high 18 = .ok (.if_icmp .ge 16, 3) := dq_at (q := (18, .if_icmp .ge 16, 3)) dm_Mo_high_0 14 rfl
theorem dc_Mo_high_21 : decode cd_Mo_high 21 = .ok (.aload_n 0, 1) := dq_at (q := (21, .aload_n 0, 1)) dm_Mo_high_0 15 rfl
theorem dc_Mo_high_22 : decode cd_Mo_high 22 = .ok (.getfield 57, 3) := dq_at (q := (22, .getfield 57, 3)) dm_Mo_high_0 16 rfl
theorem dc_Mo_high_25 : decode cd_Mo_high 25 = .ok (.iconst 2, 1) := dq_at (q := (25, .iconst 2, 1)) dm_Mo_high_0 17 rfl
theorem dc_Mo_high_26 : decode cd_Mo_high 26 = .ok (.iload_n 1, 1) := dq_at (q := (26, .iload_n 1, 1)) dm_Mo_high_0 18 rfl
theorem dc_Mo_high_27 : decode cd_Mo_high 27 = .ok (.imul, 1) := dq_at (q := (27, .imul, 1)) dm_Mo_high_0 19 rfl
theorem dc_Mo_high_28 : decode cd_Mo_high 28 = .ok (.iconst 1, 1) := dq_at (q := (28, .iconst 1, 1)) dm_Mo_high_0 20 rfl
theorem dc_Mo_high_29 : decode cd_Mo_high 29 = .ok (.iadd, 1) := dq_at (q := (29, .iadd, 1)) dm_Mo_high_0 21 rfl
theorem dc_Mo_high_30 : decode cd_Mo_high 30 = .ok (.iaload, 1) := dq_at (q := (30, .iaload, 1)) dm_Mo_high_0 22 rfl
theorem dc_Mo_high_31 : decode cd_Mo_high 31 = .ok (.goto 11, 3) := dq_at (q := (31, .goto 11, 3)) dm_Mo_high_0 23 rfl
theorem dc_Mo_high_34 : decode cd_Mo_high 34 = .ok (.aload_n 0, 1) := dq_at (q := (34, .aload_n 0, 1)) dm_Mo_high_0 24 rfl
theorem dc_Mo_high_35 : decode cd_Mo_high 35 = .ok (.getfield 57, 3) := dq_at (q := (35, .getfield 57, 3)) dm_Mo_high_0 25 rfl
theorem dc_Mo_high_38 : decode cd_Mo_high 38 = .ok (.iconst 2, 1) := dq_at (q := (38, .iconst 2, 1)) dm_Mo_high_0 26 rfl
theorem dc_Mo_high_39 : decode cd_Mo_high 39 = .ok (.iload_n 1, 1) := dq_at (q := (39, .iload_n 1, 1)) dm_Mo_high_0 27 rfl
theorem dc_Mo_high_40 : decode cd_Mo_high 40 = .ok (.imul, 1) := dq_at (q := (40, .imul, 1)) dm_Mo_high_0 28 rfl
theorem dc_Mo_high_41 : decode cd_Mo_high 41 = .ok (.iaload, 1) := dq_at (q := (41, .iaload, 1)) dm_Mo_high_0 29 rfl
theorem dc_Mo_high_42 : decode cd_Mo_high 42 = .ok (.ireturn, 1) := dq_at (q := (42, .ireturn, 1)) dm_Mo_high_0 30 rfl
def dl_Mo_isOriented_0 : List (Nat × Instr × Nat) := [(0, .aload_n 0, 1), (1, .iload_n 1, 1), (2, .invokevirtual 128, 3), (5, .aload_n 0, 1), (6, .iload_n 1, 1), (7, .invokevirtual 132, 3), (10, .iadd, 1), (11, .iconst 2, 1), (12, .irem, 1), (13, .ifCond .ne 7, 3), (16, .iconst 1, 1), (17, .goto 4, 3), (20, .iconst 0, 1), (21, .ireturn, 1)]
theorem dm_Mo_isOriented_0 : dl_Mo_isOriented_0.all (fun q => decide (decode cd_Mo_isOriented q.1 = .ok (q.2.1, q.2.2))) = true := by decide +kernel
theorem dc_Mo_isOriented_0 : decode cd_Mo_isOriented 0 = .ok (.aload_n 0, 1) := dq_at (q := (0, .aload_n 0, 1)) dm_Mo_isOriented_0 0 rfl
theorem dc_Mo_isOriented_1 : decode cd_Mo_isOriented 1 = .ok (.iload_n 1, 1) := dq_at (q := (1, .iload_n 1, 1)) dm_Mo_isOriented_0 1 rfl
theorem dc_Mo_isOriented_2 : decode cd_Mo_isOriented 2 = .ok (.invokevirtual 128, 3) := dq_at (q := (2, .invokevirtual 128, 3)) dm_Mo_isOriented_0 2 rfl
theorem dc_Mo_isOriented_5 : decode cd_Mo_isOriented 5 = .ok (.aload_n 0, 1) := dq_at (q := (5, .aload_n 0, 1)) dm_Mo_isOriented_0 3 rfl
theorem dc_Mo_isOriented_6 : decode cd_Mo_isOriented 6 = .ok (.iload_n 1, 1) := dq_at (q := (6, .iload_n 1, 1)) dm_Mo_isOriented_0 4 rfl
theorem dc_Mo_isOriented_7 : decode cd_Mo_isOriented 7 = .ok (.invokevirtual 132, 3) := dq_at (q := (7, .invokevirtual 132, 3)) dm_Mo_isOriented_0 5 rfl
theorem dc_Mo_isOriented_10 : decode cd_Mo_isOriented 10 = .ok (.iadd, 1) := dq_at (q := (10, .iadd, 1)) dm_Mo_isOriented_0 6 rfl
theorem dc_Mo_isOriented_11 : decode cd_Mo_isOriented 11 = .ok (.iconst 2, 1) := dq_at (q := (11, .iconst 2, 1)) dm_Mo_isOriented_0 7 rfl
theorem dc_Mo_isOriented_12 : decode cd_Mo_isOriented 12 = .ok (.irem, 1) := dq_at (q := (12, .irem, 1)) dm_Mo_isOriented_0 8 rfl
theorem dc_Mo_isOriented_13 : decode cd_Mo_isOriented 13 = .ok (.ifCond .ne 7, 3) := dq_at (q := (13, .ifCond .ne 7, 3)) dm_Mo_isOriented_0 9 rfl
theorem dc_Mo_isOriented_16 : decode cd_Mo_isOriented 16 = .ok (.iconst 1, 1) := dq_at (q := (16, .iconst 1, 1)) dm_Mo_isOriented_0 10 rfl
theorem dc_Mo_isOriented_17 : decode cd_Mo_isOriented 17 = .ok (.goto 4, 3) := dq_at (q := (17, .goto 4, 3)) dm_Mo_isOriented_0 11 rfl
theorem dc_Mo_isOriented_20 : decode cd_Mo_isOriented 20 = .ok (.iconst 0, 1) := dq_at (q := (20, .iconst 0, 1)) dm_Mo_isOriented_0 12 rfl
theorem dc_Mo_isOriented_21 : decode cd_Mo_isOriented 21 = .ok (.ireturn, 1) := dq_at (q := (21, .ireturn, 1)) dm_Mo_isOriented_0 13 rfl
def dl_Mo_isBetween_0 : List (Nat × Instr × Nat) := [(0, .iload_n 1, 1), (1, .aload_n 0, 1), (2, .iload_n 2, 1), (3, .invokevirtual 128, 3), (6, .if_icmp .le 16, 3), (9, .iload_n 1, 1), (10, .aload_n 0, 1), (11, .iload_n 2, 1), (12, .invokevirtual 132, 3), (15, .if_icmp .ge 7, 3), (18, .iconst 1, 1), (19, .goto 4, 3), (22, .iconst 0, 1), (23, .ireturn, 1)]
theorem dm_Mo_isBetween_0 : dl_Mo_isBetween_0.all (fun q => decide (decode cd_Mo_isBetween q.1 = .ok (q.2.1, q.2.2))) = true := by decide +kernel
theorem dc_Mo_isBetween_0 : decode cd_Mo_isBetween 0 = .ok (.iload_n 1, 1) := dq_at (q := (0, .iload_n 1, 1)) dm_Mo_isBetween_0 0 rfl
theorem dc_Mo_isBetween_1 : decode cd_Mo_isBetween 1 = .ok (.aload_n 0, 1) := dq_at (q := (1, .aload_n 0, 1)) dm_Mo_isBetween_0 1 rfl
theorem dc_Mo_isBetween_2 : decode cd_Mo_isBetween 2 = .ok (.iload_n 2, 1) := dq_at (q := (2, .iload_n 2, 1)) dm_Mo_isBetween_0 2 rfl
theorem dc_Mo_isBetween_3 : decode cd_Mo_isBetween 3 = .ok (.invokevirtual 128, 3) := dq_at (q := (3, .invokevirtual 128, 3)) dm_Mo_isBetween_0 3 rfl
theorem dc_Mo_isBetween_6 : decode cd_Mo_isBetween 6 = .ok (.if_icmp .le 16, 3) := dq_at (q := (6, .if_icmp .le 16, 3)) dm_Mo_isBetween_0 4 rfl
theorem dc_Mo_isBetween_9 : decode cd_Mo_isBetween 9 = .ok (.iload_n 1, 1) := dq_at (q := (9, .iload_n 1, 1)) dm_Mo_isBetween_0 5 rfl
theorem dc_Mo_isBetween_10 : decode cd_Mo_isBetween 10 = .ok (.aload_n 0, 1) := dq_at (q := (10, .aload_n 0, 1)) dm_Mo_isBetween_0 6 rfl
theorem dc_Mo_isBetween_11 : decode cd_Mo_isBetween 11 = .ok (.iload_n 2, 1) := dq_at (q := (11, .iload_n 2, 1)) dm_Mo_isBetween_0 7 rfl
theorem dc_Mo_isBetween_12 : decode cd_Mo_isBetween 12 = .ok (.invokevirtual 132, 3) := dq_at (q := (12, .invokevirtual 132, 3)) dm_Mo_isBetween_0 8 rfl
theorem dc_Mo_isBetween_15 : decode cd_Mo_isBetween 15 = .ok (.if_icmp .ge 7, 3) := dq_at (q := (15, .if_icmp .ge 7, 3)) dm_Mo_isBetween_0 9 rfl
theorem dc_Mo_isBetween_18 : decode cd_Mo_isBetween 18 = .ok (.iconst 1, 1) := dq_at (q := (18, .iconst 1, 1)) dm_Mo_isBetween_0 10 rfl
theorem dc_Mo_isBetween_19 : decode cd_Mo_isBetween 19 = .ok (.goto 4, 3) := dq_at (q := (19, .goto 4, 3)) dm_Mo_isBetween_0 11 rfl
theorem dc_Mo_isBetween_22 : decode cd_Mo_isBetween 22 = .ok (.iconst 0, 1) := dq_at (q := (22, .iconst 0, 1)) dm_Mo_isBetween_0 12 rfl
theorem dc_Mo_isBetween_23 : decode cd_Mo_isBetween 23 = .ok (.ireturn, 1) := dq_at (q := (23, .ireturn, 1)) dm_Mo_isBetween_0 13 rfl
def dl_Mo_cycles_0 : List (Nat × Instr × Nat) := [(0, .iconst 0, 1), (1, .istore_n 1, 1), (2, .iload_n 1, 1), (3, .bipush 14, 2), (5, .if_icmp .ge 16, 3), (8, .aload_n 0, 1), (9, .getfield 66, 3), (12, .iload_n 1, 1), (13, .iconst 0, 1), (14, .bastore, 1), (15, .iinc 1 1, 3), (18, .goto (-16), 3), (21, .iconst 0, 1), (22, .istore_n 1, 1), (23, .iconst 0, 1), (24, .istore_n 2, 1), (25, .iload_n 2, 1), (26, .iconst 2, 1), (27, .aload_n 0, 1), (28, .getfield 7, 3), (31, .imul, 1), (32, .iconst 1, 1), (33, .iadd, 1), (34, .if_icmp .gt 75, 3), (37, .iload_n 2, 1), (38, .istore_n 3, 1), (39, .aload_n 0, 1), (40, .getfield 66, 3), (43, .iload_n 2, 1), (44, .baload, 1), (45, .ifCond .eq 7, 3), (48, .iload_n 1, 1), (49, .goto 6, 3), (52, .iload_n 1, 1), (53, .iconst 1, 1), (54, .iadd, 1), (55, .istore_n 1, 1), (56, .aload_n 0, 1), (57, .getfield 66, 3), (60, .iload_n 3, 1), (61, .baload, 1), (62, .ifCond .ne 41, 3), (65, .aload_n 0, 1), (66, .getfield 66, 3), (69, .iload_n 3, 1), (70, .iconst 1, 1), (71, .bastore, 1), (72, .iload_n 3, 1), (73, .iconst 1, 1), (74, .ixor, 1), (75, .istore 4, 2), (77, .aload_n 0, 1), (78, .getfield 66, 3), (81, .iload 4, 2), (83, .iconst 1, 1), (84, .bastore, 1), (85, .aload_n 0, 1), (86, .getfield 57, 3), (89, .aload_n 0, 1), (90, .getfield 54, 3)]
theorem dm_Mo_cycles_0 : dl_Mo_cycles_0.all (fun q => decide (decode cd_Mo_cycles q.1 = .ok (q.2.1, q.2.2))) = true := by decide +kernel
theorem dc_Mo_cycles_0 : decode cd_Mo_cycles 0 = .ok (.iconst 0, 1) := dq_at (q := (0, .iconst 0, 1)) dm_Mo_cycles_0 0 rfl
theorem dc_Mo_cycles_1 : decode cd_Mo_cycles 1 = .ok (.istore_n 1, 1) := dq_at (q := (1, .istore_n 1, 1)) dm_Mo_cycles_0 1 rfl
theorem dc_Mo_cycles_2 : decode cd_Mo_cycles 2 = .ok (.iload_n 1, 1) := dq_at (q := (2, .iload_n 1, 1)) dm_Mo_cycles_0 2 rfl
theorem dc_Mo_cycles_3 : decode cd_Mo_cycles 3 = .ok (.bipush 14, 2) := dq_at (q := (3, .bipush 14, 2)) dm_Mo_cycles_0 3 rfl
theorem dc_Mo_cycles_5 : decode cd_Mo_cycles 5 = .ok (.if_icmp .ge 16, 3) := dq_at (q := (5, .if_icmp .ge 16, 3)) dm_Mo_cycles_0 4 rfl
theorem dc_Mo_cycles_8 : decode cd_Mo_cycles 8 = .ok (.aload_n 0, 1) := dq_at (q := (8, .aload_n 0, 1)) dm_Mo_cycles_0 5 rfl
theorem dc_Mo_cycles_9 : decode cd_Mo_cycles 9 = .ok (.getfield 66, 3) := dq_at (q := (9, .getfield 66, 3)) dm_Mo_cycles_0 6 rfl
theorem dc_Mo_cycles_12 : decode cd_Mo_cycles 12 = .ok (.iload_n 1, 1) := dq_at (q := (12, .iload_n 1, 1)) dm_Mo_cycles_0 7 rfl
theorem dc_Mo_cycles_13 : decode cd_Mo_cycles 13 = .ok (.iconst 0, 1) := dq_at (q := (13, .iconst 0, 1)) dm_Mo_cycles_0 8 rfl
theorem dc_Mo_cycles_14 : decode cd_Mo_cycles 14 = .ok (.bastore, 1) := dq_at (q := (14, .bastore, 1)) dm_Mo_cycles_0 9 rfl
theorem dc_Mo_cycles_15 : decode cd_Mo_cycles 15 = .ok (.iinc 1 1, 3) := dq_at (q := (15, .iinc 1 1, 3)) dm_Mo_cycles_0 10 rfl
theorem dc_Mo_cycles_18 : decode cd_Mo_cycles 18 = .ok (.goto (-16), 3) := dq_at (q := (18, .goto (-16), 3)) dm_Mo_cycles_0 11 rfl
theorem dc_Mo_cycles_21 : decode cd_Mo_cycles 21 = .ok (.iconst 0, 1) := dq_at (q := (21, .iconst 0, 1)) dm_Mo_cycles_0 12 rfl
theorem dc_Mo_cycles_22 : decode cd_Mo_cycles 22 = .ok (.istore_n 1, 1) := dq_at (q := (22, .istore_n 1, 1)) dm_Mo_cycles_0 13 rfl
theorem dc_Mo_cycles_23 : decode cd_Mo_cycles 23 = .ok (.iconst 0, 1) := dq_at (q := (23, .iconst 0, 1)) dm_Mo_cycles_0 14 rfl
theorem dc_Mo_cycles_24 : decode cd_Mo_cycles 24 = .ok (.istore_n 2, 1) := dq_at (q := (24, .istore_n 2, 1)) dm_Mo_cycles_0 15 rfl
theorem dc_Mo_cycles_25 : decode cd_Mo_cycles 25 = .ok (.iload_n 2, 1) := dq_at (q := (25, .iload_n 2, 1)) dm_Mo_cycles_0 16 rfl
theorem dc_Mo_cycles_26 : decode cd_Mo_cycles 26 = .ok (.iconst 2, 1) := dq_at (q := (26, .iconst 2, 1)) dm_Mo_cycles_0 17 rfl
theorem dc_Mo_cycles_27 : decode cd_Mo_cycles 27 = .ok (.aload_n 0, 1) := dq_at (q := (27, .aload_n 0, 1)) dm_Mo_cycles_0 18 rfl
theorem dc_Mo_cycles_28 : decode cd_Mo_cycles 28 = .ok (.getfield 7, 3) := dq_at (q := (28, .getfield 7, 3)) dm_Mo_cycles_0 19 rfl
theorem dc_Mo_cycles_31 : decode cd_Mo_cycles 31 = .ok (.imul, 1) := dq_at (q := (31, .imul, 1)) dm_Mo_cycles_0 20 rfl
theorem dc_Mo_cycles_32 : decode cd_Mo_cycles 32 = .ok (.iconst 1, 1) := dq_at (q := (32, .iconst 1, 1)) dm_Mo_cycles_0 21 rfl
theorem dc_Mo_cycles_33 : decode cd_Mo_cycles 33 = .ok (.iadd, 1) := dq_at (q := (33, .iadd, 1)) dm_Mo_cycles_0 22 rfl
theorem dc_Mo_cycles_34 : decode cd_Mo_cycles 34 = .ok (.if_icmp .gt 75, 3) := dq_at (q := (34, .if_icmp .gt 75, 3)) dm_Mo_cycles_0 23 rfl
theorem dc_Mo_cycles_37 : decode cd_Mo_cycles 37 = .ok (.iload_n 2, 1) := dq_at (q := (37, .iload_n 2, 1)) dm_Mo_cycles_0 24 rfl
theorem dc_Mo_cycles_38 : decode cd_Mo_cycles 38 = .ok (.istore_n 3, 1) := dq_at (q := (38, .istore_n 3, 1)) dm_Mo_cycles_0 25 rfl
theorem dc_Mo_cycles_39 : decode cd_Mo_cycles 39 = .ok (.aload_n 0, 1) := dq_at (q := (39, .aload_n 0, 1)) dm_Mo_cycles_0 26 rfl
theorem dc_Mo_cycles_40 : decode cd_Mo_cycles 40 = .ok (.getfield 66, 3) := dq_at (q := (40, .getfield 66, 3)) dm_Mo_cycles_0 27 rfl
theorem dc_Mo_cycles_43 : decode cd_Mo_cycles 43 = .ok (.iload_n 2, 1) := dq_at (q := (43, .iload_n 2, 1)) dm_Mo_cycles_0 28 rfl
theorem dc_Mo_cycles_44 : decode cd_Mo_cycles 44 = .ok (.baload, 1) := dq_at (q := (44, .baload, 1)) dm_Mo_cycles_0 29 rfl
theorem dc_Mo_cycles_45 : decode cd_Mo_cycles 45 = .ok (.ifCond .eq 7, 3) := dq_at (q := (45, .ifCond .eq 7, 3)) dm_Mo_cycles_0 30 rfl
theorem dc_Mo_cycles_48 : decode cd_Mo_cycles 48 = .ok (.iload_n 1, 1) := dq_at (q := (48, .iload_n 1, 1)) dm_Mo_cycles_0 31 rfl
theorem dc_Mo_cycles_49 : decode cd_Mo_cycles 49 = .ok (.goto 6, 3) := dq_at (q := (49, .goto 6, 3)) dm_Mo_cycles_0 32 rfl
theorem dc_Mo_cycles_52 : decode cd_Mo_cycles 52 = .ok (.iload_n 1, 1) := dq_at (q := (52, .iload_n 1, 1)) dm_Mo_cycles_0 33 rfl
theorem dc_Mo_cycles_53 : decode cd_Mo_cycles 53 = .ok (.iconst 1, 1) := dq_at (q := (53, .iconst 1, 1)) dm_Mo_cycles_0 34 rfl
theorem dc_Mo_cycles_54 : decode cd_Mo_cycles 54 = .ok (.iadd, 1) := dq_at (q := (54, .iadd, 1)) dm_Mo_cycles_0 35 rfl
theorem dc_Mo_cycles_55 : decode cd_Mo_cycles 55 = .ok (.istore_n 1, 1) := dq_at (q := (55, .istore_n 1, 1)) dm_Mo_cycles_0 36 rfl
theorem dc_Mo_cycles_56 : decode cd_Mo_cycles 56 = .ok (.aload_n 0, 1) := dq_at (q := (56, .aload_n 0, 1)) dm_Mo_cycles_0 37 rfl
theorem dc_Mo_cycles_57 : decode cd_Mo_cycles 57 = .ok (.getfield 66, 3) := dq_at (q := (57, .getfield 66, 3)) dm_Mo_cycles_0 38 rfl
theorem dc_Mo_cycles_60 : decode cd_Mo_cycles 60 = .ok (.iload_n 3, 1) := dq_at (q := (60, .iload_n 3, 1)) dm_Mo_cycles_0 39 rfl
theorem dc_Mo_cycles_61 : decode cd_Mo_cycles 61 = .ok (.baload, 1) := dq_at (q := (61, .baload, 1)) dm_Mo_cycles_0 40 rfl
theorem dc_Mo_cycles_62 : decode cd_Mo_cycles 62 = .ok (.ifCond .ne 41, 3) := dq_at (q := (62, .ifCond .ne 41, 3)) dm_Mo_cycles_0 41 rfl
theorem dc_Mo_cycles_65 : decode cd_Mo_cycles 65 = .ok (.aload_n 0, 1) := dq_at (q := (65, .aload_n 0, 1)) dm_Mo_cycles_0 42 rfl
theorem dc_Mo_cycles_66 : decode cd_Mo_cycles 66 = .ok (.getfield 66, 3) := dq_at (q := (66, .getfield 66, 3)) dm_Mo_cycles_0 43 rfl
theorem dc_Mo_cycles_69 : decode cd_Mo_cycles 69 = .ok (.iload_n 3, 1) := dq_at (q := (69, .iload_n 3, 1)) dm_Mo_cycles_0 44 rfl
theorem dc_Mo_cycles_70 : decode cd_Mo_cycles 70 = .ok (.iconst 1, 1) := dq_at (q := (70, .iconst 1, 1)) dm_Mo_cycles_0 45 rfl
theorem dc_Mo_cycles_71 : decode cd_Mo_cycles 71 = .ok (.bastore, 1) := dq_at (q := (71, .bastore, 1)) dm_Mo_cycles_0 46 rfl
theorem dc_Mo_cycles_72 : decode cd_Mo_cycles 72 = .ok (.iload_n 3, 1) := dq_at (q := (72, .iload_n 3, 1)) dm_Mo_cycles_0 47 rfl
theorem dc_Mo_cycles_73 : decode cd_Mo_cycles 73 = .ok (.iconst 1, 1) := dq_at (q := (73, .iconst 1, 1)) dm_Mo_cycles_0 48 rfl
theorem dc_Mo_cycles_74 : decode cd_Mo_cycles 74 = .ok (.ixor, 1) := dq_at (q := (74, .ixor, 1)) dm_Mo_cycles_0 49 rfl
theorem dc_Mo_cycles_75 : decode cd_Mo_cycles 75 = .ok (.istore 4, 2) := dq_at (q := (75, .istore 4, 2)) dm_Mo_cycles_0 50 rfl
theorem dc_Mo_cycles_77 : decode cd_Mo_cycles 77 = .ok (.aload_n 0, 1) := dq_at (q := (77, .aload_n 0, 1)) dm_Mo_cycles_0 51 rfl
theorem dc_Mo_cycles_78 : decode cd_Mo_cycles 78 = .ok (.getfield 66, 3) := dq_at (q := (78, .getfield 66, 3)) dm_Mo_cycles_0 52 rfl
theorem dc_Mo_cycles_81 : decode cd_Mo_cycles 81 = .ok (.iload 4, 2) := dq_at (q := (81, .iload 4, 2)) dm_Mo_cycles_0 53 rfl
theorem dc_Mo_cycles_83 : decode cd_Mo_cycles 83 = .ok (.iconst 1, 1) := dq_at (q := (83, .iconst 1, 1)) dm_Mo_cycles_0 54 rfl
theorem dc_Mo_cycles_84 : decode cd_Mo_cycles 84 = .ok (.bastore, 1) := dq_at (q := (84, .bastore, 1)) dm_Mo_cycles_0 55 rfl
theorem dc_Mo_cycles_85 : decode cd_Mo_cycles 85 = .ok (.aload_n 0, 1) := dq_at (q := (85, .aload_n 0, 1)) dm_Mo_cycles_0 56 rfl
theorem dc_Mo_cycles_86 : decode cd_Mo_cycles 86 = .ok (.getfield 57, 3) := dq_at (q := (86, .getfield 57, 3)) dm_Mo_cycles_0 57 rfl
theorem dc_Mo_cycles_89 : decode cd_Mo_cycles 89 = .ok (.aload_n 0, 1) := dq_at (q := (89, .aload_n 0, 1)) dm_Mo_cycles_0 58 rfl
theorem dc_Mo_cycles_90 : decode cd_Mo_cycles 90 = .ok (.getfield 54, 3) := dq_at (q := (90, .getfield 54, 3)) dm_Mo_cycles_0 59 rfl
def dl_Mo_cycles_60 : List (Nat × Instr × Nat) := [(93, .iload 4, 2), (95, .iaload, 1), (96, .iconst 1, 1), (97, .ixor, 1), (98, .iaload, 1), (99, .istore_n 3, 1), (100, .goto (-44), 3), (103, .iinc 2 1, 3), (106, .goto (-81), 3), (109, .iload_n 1, 1), (110, .ireturn, 1)]
theorem dm_Mo_cycles_60 : dl_Mo_cycles_60.all (fun q => decide (decode cd_Mo_cycles q.1 = .ok (q.2.1, q.2.2))) = true := by decide +kernel
theorem dc_Mo_cycles_93 : decode cd_Mo_cycles 93 = .ok (.iload 4, 2) := dq_at (q := (93, .iload 4, 2)) dm_Mo_cycles_60 0 rfl
theorem dc_Mo_cycles_95 : decode cd_Mo_cycles 95 = .ok (.iaload, 1) := dq_at (q := (95, .iaload, 1)) dm_Mo_cycles_60 1 rfl
theorem dc_Mo_cycles_96 : decode cd_Mo_cycles 96 = .ok (.iconst 1, 1) := dq_at (q := (96, .iconst 1, 1)) dm_Mo_cycles_60 2 rfl
theorem dc_Mo_cycles_97 : decode cd_Mo_cycles 97 = .ok (.ixor, 1) := dq_at (q := (97, .ixor, 1)) dm_Mo_cycles_60 3 rfl
theorem dc_Mo_cycles_98 : decode cd_Mo_cycles 98 = .ok (.iaload, 1) := dq_at (q := (98, .iaload, 1)) dm_Mo_cycles_60 4 rfl
theorem dc_Mo_cycles_99 : decode cd_Mo_cycles 99 = .ok (.istore_n 3, 1) := dq_at (q := (99, .istore_n 3, 1)) dm_Mo_cycles_60 5 rfl
theorem dc_Mo_cycles_100 : decode cd_Mo_cycles 100 = .ok (.goto (-44), 3) := dq_at (q := (100, .goto (-44), 3)) dm_Mo_cycles_60 6 rfl
theorem dc_Mo_cycles_103 : decode cd_Mo_cycles 103 = .ok (.iinc 2 1, 3) := dq_at (q := (103, .iinc 2 1, 3)) dm_Mo_cycles_60 7 rfl
theorem dc_Mo_cycles_106 : decode cd_Mo_cycles 106 = .ok (.goto (-81), 3) := dq_at (q := (106, .goto (-81), 3)) dm_Mo_cycles_60 8 rfl
theorem dc_Mo_cycles_109 : decode cd_Mo_cycles 109 = .ok (.iload_n 1, 1) := dq_at (q := (109, .iload_n 1, 1)) dm_Mo_cycles_60 9 rfl
theorem dc_Mo_cycles_110 : decode cd_Mo_cycles 110 = .ok (.ireturn, 1) := dq_at (q := (110, .ireturn, 1)) dm_Mo_cycles_60 10 rfl
def dl_Mo_findParts_0 : List (Nat × Instr × Nat) := [(0, .iconst 0, 1), (1, .istore_n 1, 1), (2, .iload_n 1, 1), (3, .aload_n 0, 1), (4, .getfield 7, 3), (7, .if_icmp .gt 16, 3), (10, .aload_n 0, 1), (11, .getfield 60, 3), (14, .iload_n 1, 1), (15, .iload_n 1, 1), (16, .iastore, 1), (17, .iinc 1 1, 3), (20, .goto (-18), 3), (23, .iconst 0, 1), (24, .istore_n 1, 1), (25, .iload_n 1, 1), (26, .aload_n 0, 1), (27, .getfield 7, 3), (30, .if_icmp .gt 120, 3), (33, .iconst 0, 1), (34, .istore_n 2, 1), (35, .iload_n 2, 1), (36, .aload_n 0, 1), (37, .getfield 7, 3), (40, .if_icmp .gt 104, 3), (43, .iconst 0, 1), (44, .istore_n 3, 1), (45, .iload_n 3, 1), (46, .aload_n 0, 1), (47, .getfield 7, 3), (50, .if_icmp .gt 88, 3), (53, .aload_n 0, 1), (54, .aload_n 0, 1), (55, .getfield 57, 3), (58, .iconst 2, 1), (59, .iload_n 3, 1), (60, .imul, 1), (61, .iaload, 1), (62, .iload_n 2, 1), (63, .invokevirtual 135, 3), (66, .aload_n 0, 1), (67, .aload_n 0, 1), (68, .getfield 57, 3), (71, .iconst 2, 1), (72, .iload_n 3, 1), (73, .imul, 1), (74, .iconst 1, 1), (75, .iadd, 1), (76, .iaload, 1), (77, .iload_n 2, 1), (78, .invokevirtual 135, 3), (81, .if_icmp .eq 51, 3), (84, .aload_n 0, 1), (85, .getfield 60, 3), (88, .iload_n 2, 1), (89, .aload_n 0, 1), (90, .getfield 60, 3), (93, .iload_n 3, 1), (94, .iaload, 1), (95, .aload_n 0, 1)]
theorem dm_Mo_findParts_0 : dl_Mo_findParts_0.all (fun q => decide (decode cd_Mo_findParts q.1 = .ok (q.2.1, q.2.2))) = true := by decide +kernel
theorem dc_Mo_findParts_0 : decode cd_Mo_findParts 0 = .ok (.iconst 0, 1) := dq_at (q := (0, .iconst 0, 1)) dm_Mo_findParts_0 0 rfl
theorem dc_Mo_findParts_1 : decode cd_Mo_findParts 1 = .ok (.istore_n 1, 1) := dq_at (q := (1, .istore_n 1, 1)) dm_Mo_findParts_0 1 rfl
theorem dc_Mo_findParts_2 : decode cd_Mo_findParts 2 = .ok (.iload_n 1, 1) := dq_at (q := (2, .iload_n 1, 1)) dm_Mo_findParts_0 2 rfl
theorem dc_Mo_findParts_3 : decode cd_Mo_findParts 3 = .ok (.aload_n 0, 1) := dq_at (q := (3, .aload_n 0, 1)) dm_Mo_findParts_0 3 rfl
theorem dc_Mo_findParts_4 : decode cd_Mo_findParts 4 = .ok (.getfield 7, 3) := dq_at (q := (4, .getfield 7, 3)) dm_Mo_findParts_0 4 rfl
theorem dc_Mo_findParts_7 : decode cd_Mo_findParts 7 = .ok (.if_icmp .gt 16, 3) := dq_at (q := (7, .if_icmp .gt 16, 3)) dm_Mo_findParts_0 5 rfl
theorem dc_Mo_findParts_10 : decode cd_Mo_findParts 10 = .ok (.aload_n 0, 1) := dq_at (q := (10, .aload_n 0, 1)) dm_Mo_findParts_0 6 rfl
theorem dc_Mo_findParts_11 : decode cd_Mo_findParts 11 = .ok (.getfield 60, 3) := dq_at (q := (11, .getfield 60, 3)) dm_Mo_findParts_0 7 rfl
theorem dc_Mo_findParts_14 : decode cd_Mo_findParts 14 = .ok (.iload_n 1, 1) := dq_at (q := (14, .iload_n 1, 1)) dm_Mo_findParts_0 8 rfl
theorem dc_Mo_findParts_15 : decode cd_Mo_findParts 15 = .ok (.iload_n 1, 1) := dq_at (q := (15, .iload_n 1, 1)) dm_Mo_findParts_0 9 rfl
theorem dc_Mo_findParts_16 : decode cd_Mo_findParts 16 = .ok (.iastore, 1) := dq_at (q := (16, .iastore, 1)) dm_Mo_findParts_0 10 rfl
theorem dc_Mo_findParts_17 : decode cd_Mo_findParts 17 = .ok (.iinc 1 1, 3) := dq_at (q := (17, .iinc 1 1, 3)) dm_Mo_findParts_0 11 rfl
theorem dc_Mo_findParts_20 : decode cd_Mo_findParts 20 = .ok (.goto (-18), 3) := dq_at (q := (20, .goto (-18), 3)) dm_Mo_findParts_0 12 rfl
theorem dc_Mo_findParts_23 : decode cd_Mo_findParts 23 = .ok (.iconst 0, 1) := dq_at (q := (23, .iconst 0, 1)) dm_Mo_findParts_0 13 rfl
theorem dc_Mo_findParts_24 : decode cd_Mo_findParts 24 = .ok (.istore_n 1, 1) := dq_at (q := (24, .istore_n 1, 1)) dm_Mo_findParts_0 14 rfl
theorem dc_Mo_findParts_25 : decode cd_Mo_findParts 25 = .ok (.iload_n 1, 1) := dq_at (q := (25, .iload_n 1, 1)) dm_Mo_findParts_0 15 rfl
theorem dc_Mo_findParts_26 : decode cd_Mo_findParts 26 = .ok (.aload_n 0, 1) := dq_at (q := (26, .aload_n 0, 1)) dm_Mo_findParts_0 16 rfl
theorem dc_Mo_findParts_27 : decode cd_Mo_findParts 27 = .ok (.getfield 7, 3) := dq_at (q := (27, .getfield 7, 3)) dm_Mo_findParts_0 17 rfl
theorem dc_Mo_findParts_30 : decode cd_Mo_findParts 30 = .ok (.if_icmp .gt 120, 3) := dq_at (q := (30, .if_icmp .gt 120, 3)) dm_Mo_findParts_0 18 rfl
theorem dc_Mo_findParts_33 : decode cd_Mo_findParts 33 = .ok (.iconst 0, 1) := dq_at (q := (33, .iconst 0, 1)) dm_Mo_findParts_0 19 rfl
theorem dc_Mo_findParts_34 : decode cd_Mo_findParts 34 = .ok (.istore_n 2, 1) := dq_at (q := (34, .istore_n 2, 1)) dm_Mo_findParts_0 20 rfl
theorem dc_Mo_findParts_35 : decode cd_Mo_findParts 35 = .ok (.iload_n 2, 1) := dq_at (q := (35, .iload_n 2, 1)) dm_Mo_findParts_0 21 rfl
theorem dc_Mo_findParts_36 : decode cd_Mo_findParts 36 = .ok (.aload_n 0, 1) := dq_at (q := (36, .aload_n 0, 1)) dm_Mo_findParts_0 22 rfl
theorem dc_Mo_findParts_37 : decode cd_Mo_findParts 37 = .ok (.getfield 7, 3) := dq_at (q := (37, .getfield 7, 3)) dm_Mo_findParts_0 23 rfl
theorem dc_Mo_findParts_40 : decode cd_Mo_findParts 40 = .ok (.if_icmp .gt 104, 3) := dq_at (q := (40, .if_icmp .gt 104, 3)) dm_Mo_findParts_0 24 rfl
theorem dc_Mo_findParts_43 : decode cd_Mo_findParts 43 = .ok (.iconst 0, 1) := dq_at (q := (43, .iconst 0, 1)) dm_Mo_findParts_0 25 rfl
theorem dc_Mo_findParts_44 : decode cd_Mo_findParts 44 = .ok (.istore_n 3, 1) := dq_at (q := (44, .istore_n 3, 1)) dm_Mo_findParts_0 26 rfl
theorem dc_Mo_findParts_45 : decode cd_Mo_findParts 45 = .ok (.iload_n 3, 1) := dq_at (q := (45, .iload_n 3, 1)) dm_Mo_findParts_0 27 rfl
theorem dc_Mo_findParts_46 : decode cd_Mo_findParts 46 = .ok (.aload_n 0, 1) := dq_at (q := (46, .aload_n 0, 1)) dm_Mo_findParts_0 28 rfl
theorem dc_Mo_findParts_47 : decode cd_Mo_findParts 47 = .ok (.getfield 7, 3) := dq_at (q := (47, .getfield 7, 3)) dm_Mo_findParts_0 29 rfl
theorem dc_Mo_findParts_50 : decode cd_Mo_findParts 50 = .ok (.if_icmp .gt 88, 3) := dq_at (q := (50, .if_icmp .gt 88, 3)) dm_Mo_findParts_0 30 rfl
theorem dc_Mo_findParts_53 : decode cd_Mo_findParts 53 = .ok (.aload_n 0, 1) := dq_at (q := (53, .aload_n 0, 1)) dm_Mo_findParts_0 31 rfl
theorem dc_Mo_findParts_54 : decode cd_Mo_findParts 54 = .ok (.aload_n 0, 1) := dq_at (q := (54, .aload_n 0, 1)) dm_Mo_findParts_0 32 rfl
theorem dc_Mo_findParts_55 : decode cd_Mo_findParts 55 = .ok (.getfield 57, 3) := dq_at (q := (55, .getfield 57, 3)) dm_Mo_findParts_0 33 rfl
theorem dc_Mo_findParts_58 : decode cd_Mo_findParts 58 = .ok (.iconst 2, 1) := dq_at (q := (58, .iconst 2, 1)) dm_Mo_findParts_0 34 rfl
theorem dc_Mo_findParts_59 : decode cd_Mo_findParts 59 = .ok (.iload_n 3, 1) := dq_at (q := (59, .iload_n 3, 1)) dm_Mo_findParts_0 35 rfl
theorem dc_Mo_findParts_60 : decode cd_Mo_findParts 60 = .ok (.imul, 1) := dq_at (q := (60, .imul, 1)) dm_Mo_findParts_0 36 rfl
theorem dc_Mo_findParts_61 : decode cd_Mo_findParts 61 = .ok (.iaload, 1) := dq_at (q := (61, .iaload, 1)) dm_Mo_findParts_0 37 rfl
theorem dc_Mo_findParts_62 : decode cd_Mo_findParts 62 = .ok (.iload_n 2, 1) := dq_at (q := (62, .iload_n 2, 1)) dm_Mo_findParts_0 38 rfl
theorem dc_Mo_findParts_63 : decode cd_Mo_findParts 63 = .ok (.invokevirtual 135, 3) := dq_at (q := (63, .invokevirtual 135, 3)) dm_Mo_findParts_0 39 rfl
theorem dc_Mo_findParts_66 : decode cd_Mo_findParts 66 = .ok (.aload_n 0, 1) := dq_at (q := (66, .aload_n 0, 1)) dm_Mo_findParts_0 40 rfl
theorem dc_Mo_findParts_67 : decode cd_Mo_findParts 67 = .ok (.aload_n 0, 1) := dq_at (q := (67, .aload_n 0, 1)) dm_Mo_findParts_0 41 rfl
theorem dc_Mo_findParts_68 : decode cd_Mo_findParts 68 = .ok (.getfield 57, 3) := dq_at (q := (68, .getfield 57, 3)) dm_Mo_findParts_0 42 rfl
theorem dc_Mo_findParts_71 : decode cd_Mo_findParts 71 = .ok (.iconst 2, 1) := dq_at (q := (71, .iconst 2, 1)) dm_Mo_findParts_0 43 rfl
theorem dc_Mo_findParts_72 : decode cd_Mo_findParts 72 = .ok (.iload_n 3, 1) := dq_at (q := (72, .iload_n 3, 1)) dm_Mo_findParts_0 44 rfl
theorem dc_Mo_findParts_73 : decode cd_Mo_findParts 73 = .ok (.imul, 1) := dq_at (q := (73, .imul, 1)) dm_Mo_findParts_0 45 rfl
theorem dc_Mo_findParts_74 : decode cd_Mo_findParts 74 = .ok (.iconst 1, 1) := dq_at (q := (74, .iconst 1, 1)) dm_Mo_findParts_0 46 rfl
theorem dc_Mo_findParts_75 : decode cd_Mo_findParts 75 = .ok (.iadd, 1) := dq_at (q := (75, .iadd, 1)) dm_Mo_findParts_0 47 rfl
theorem dc_Mo_findParts_76 : decode cd_Mo_findParts 76 = .ok (.iaload, 1) := dq_at (q := (76, .iaload, 1)) dm_Mo_findParts_0 48 rfl
theorem dc_Mo_findParts_77 : decode cd_Mo_findParts 77 = .ok (.iload_n 2, 1) := dq_at (q := (77, .iload_n 2, 1)) dm_Mo_findParts_0 49 rfl
theorem dc_Mo_findParts_78 : decode cd_Mo_findParts 78 = .ok (.invokevirtual 135, 3) := dq_at (q := (78, .invokevirtual 135, 3)) dm_Mo_findParts_0 50 rfl
theorem dc_Mo_findParts_81 : decode cd_Mo_findParts 81 = .ok (.if_icmp .eq 51, 3) := dq_at (q := (81, .if_icmp .eq 51, 3)) dm_Mo_findParts_0 51 rfl
theorem dc_Mo_findParts_84 : decode cd_Mo_findParts 84 = .ok (.aload_n 0, 1) := dq_at (q := (84, .aload_n 0, 1)) dm_Mo_findParts_0 52 rfl
theorem dc_Mo_findParts_85 : decode cd_Mo_findParts 85 = .ok (.getfield 60, 3) := dq_at (q := (85, .getfield 60, 3)) dm_Mo_findParts_0 53 rfl
theorem dc_Mo_findParts_88 : decode cd_Mo_findParts 88 = .ok (.iload_n 2, 1) := dq_at (q := (88, .iload_n 2, 1)) dm_Mo_findParts_0 54 rfl
theorem dc_Mo_findParts_89 : decode cd_Mo_findParts 89 = .ok (.aload_n 0, 1) := dq_at (q := (89, .aload_n 0, 1)) dm_Mo_findParts_0 55 rfl
theorem dc_Mo_findParts_90 : decode cd_Mo_findParts 90 = .ok (.getfield 60, 3) := dq_at (q := (90, .getfield 60, 3)) dm_Mo_findParts_0 56 rfl
theorem dc_Mo_findParts_93 : decode cd_Mo_findParts 93 = .ok (.iload_n 3, 1) := dq_at (q := (93, .iload_n 3, 1)) dm_Mo_findParts_0 57 rfl
theorem dc_Mo_findParts_94 : decode cd_Mo_findParts 94 = .ok (.iaload, 1) := dq_at (q := (94, .iaload, 1)) dm_Mo_findParts_0 58 rfl
theorem dc_Mo_findParts_95 : decode cd_Mo_findParts 95 = .ok (.aload_n 0, 1) := dq_at (q := (95, .aload_n 0, 1)) dm_Mo_findParts_0 59 rfl
def dl_Mo_findParts_60 : List (Nat × Instr × Nat) := [(96, .getfield 60, 3), (99, .iload_n 2, 1), (100, .iaload, 1), (101, .if_icmp .ge 12, 3), (104, .aload_n 0, 1), (105, .getfield 60, 3), (108, .iload_n 3, 1), (109, .iaload, 1), (110, .goto 9, 3), (113, .aload_n 0, 1), (114, .getfield 60, 3), (117, .iload_n 2, 1), (118, .iaload, 1), (119, .iastore, 1), (120, .aload_n 0, 1), (121, .getfield 60, 3), (124, .iload_n 3, 1), (125, .aload_n 0, 1), (126, .getfield 60, 3), (129, .iload_n 2, 1), (130, .iaload, 1), (131, .iastore, 1), (132, .iinc 3 1, 3), (135, .goto (-90), 3), (138, .iinc 2 1, 3), (141, .goto (-106), 3), (144, .iinc 1 1, 3), (147, .goto (-122), 3), (150, .iconst 0, 1), (151, .istore_n 1, 1), (152, .iconst 0, 1), (153, .istore_n 2, 1), (154, .iload_n 2, 1), (155, .aload_n 0, 1), (156, .getfield 7, 3), (159, .if_icmp .gt 157, 3), (162, .iconst 0, 1), (163, .istore_n 3, 1), (164, .iconst 0, 1), (165, .istore 4, 2), (167, .iconst 0, 1), (168, .istore 5, 2), (170, .iload 5, 2), (172, .aload_n 0, 1), (173, .getfield 7, 3), (176, .if_icmp .gt 60, 3), (179, .aload_n 0, 1), (180, .getfield 60, 3), (183, .iload 5, 2), (185, .iaload, 1), (186, .iload_n 2, 1), (187, .if_icmp .ne 9, 3), (190, .iload_n 3, 1), (191, .iconst 1, 1), (192, .iadd, 1), (193, .goto 4, 3), (196, .iload_n 3, 1), (197, .istore_n 3, 1), (198, .iload 4, 2), (200, .ifCond .ne 23, 3)]
theorem dm_Mo_findParts_60 : dl_Mo_findParts_60.all (fun q => decide (decode cd_Mo_findParts q.1 = .ok (q.2.1, q.2.2))) = true := by decide +kernel
theorem dc_Mo_findParts_96 : decode cd_Mo_findParts 96 = .ok (.getfield 60, 3) := dq_at (q := (96, .getfield 60, 3)) dm_Mo_findParts_60 0 rfl
theorem dc_Mo_findParts_99 : decode cd_Mo_findParts 99 = .ok (.iload_n 2, 1) := dq_at (q := (99, .iload_n 2, 1)) dm_Mo_findParts_60 1 rfl
theorem dc_Mo_findParts_100 : decode cd_Mo_findParts 100 = .ok (.iaload, 1) := dq_at (q := (100, .iaload, 1)) dm_Mo_findParts_60 2 rfl
theorem dc_Mo_findParts_101 : decode cd_Mo_findParts 101 = .ok (.if_icmp .ge 12, 3) := dq_at (q := (101, .if_icmp .ge 12, 3)) dm_Mo_findParts_60 3 rfl
theorem dc_Mo_findParts_104 : decode cd_Mo_findParts 104 = .ok (.aload_n 0, 1) := dq_at (q := (104, .aload_n 0, 1)) dm_Mo_findParts_60 4 rfl
theorem dc_Mo_findParts_105 : decode cd_Mo_findParts 105 = .ok (.getfield 60, 3) := dq_at (q := (105, .getfield 60, 3)) dm_Mo_findParts_60 5 rfl
theorem dc_Mo_findParts_108 : decode cd_Mo_findParts 108 = .ok (.iload_n 3, 1) := dq_at (q := (108, .iload_n 3, 1)) dm_Mo_findParts_60 6 rfl
theorem dc_Mo_findParts_109 : decode cd_Mo_findParts 109 = .ok (.iaload, 1) := dq_at (q := (109, .iaload, 1)) dm_Mo_findParts_60 7 rfl
theorem dc_Mo_findParts_110 : decode cd_Mo_findParts 110 = .ok (.goto 9, 3) := dq_at (q := (110, .goto 9, 3)) dm_Mo_findParts_60 8 rfl
theorem dc_Mo_findParts_113 : decode cd_Mo_findParts 113 = .ok (.aload_n 0, 1) := dq_at (q := (113, .aload_n 0, 1)) dm_Mo_findParts_60 9 rfl
theorem dc_Mo_findParts_114 : decode cd_Mo_findParts 114 = .ok (.getfield 60, 3) := dq_at (q := (114, .getfield 60, 3)) dm_Mo_findParts_60 10 rfl
theorem dc_Mo_findParts_117 : decode cd_Mo_findParts 117 = .ok (.iload_n 2, 1) := dq_at (q := (117, .iload_n 2, 1)) dm_Mo_findParts_60 11 rfl
theorem dc_Mo_findParts_118 : decode cd_Mo_findParts 118 = .ok (.iaload, 1) := dq_at (q := (118, .iaload, 1)) dm_Mo_findParts_60 12 rfl
theorem dc_Mo_findParts_119 : decode cd_Mo_findParts 119 = .ok (.iastore, 1) := dq_at (q := (119, .iastore, 1)) dm_Mo_findParts_60 13 rfl
theorem dc_Mo_findParts_120 : decode cd_Mo_findParts 120 = .ok (.aload_n 0, 1) := dq_at (q := (120, .aload_n 0, 1)) dm_Mo_findParts_60 14 rfl
theorem dc_Mo_findParts_121 : decode cd_Mo_findParts 121 = .ok (.getfield 60, 3) := dq_at (q := (121, .getfield 60, 3)) dm_Mo_findParts_60 15 rfl
theorem dc_Mo_findParts_124 : decode cd_Mo_findParts 124 = .ok (.iload_n 3, 1) := dq_at (q := (124, .iload_n 3, 1)) dm_Mo_findParts_60 16 rfl
theorem dc_Mo_findParts_125 : decode cd_Mo_findParts 125 = .ok (.aload_n 0, 1) := dq_at (q := (125, .aload_n 0, 1)) dm_Mo_findParts_60 17 rfl
theorem dc_Mo_findParts_126 : decode cd_Mo_findParts 126 = .ok (.getfield 60, 3) := dq_at (q := (126, .getfield 60, 3)) dm_Mo_findParts_60 18 rfl
theorem dc_Mo_findParts_129 : decode cd_Mo_findParts 129 = .ok (.iload_n 2, 1) := dq_at (q := (129, .iload_n 2, 1)) dm_Mo_findParts_60 19 rfl
theorem dc_Mo_findParts_130 : decode cd_Mo_findParts 130 = .ok (.iaload, 1) := dq_at (q := (130, .iaload, 1)) dm_Mo_findParts_60 20 rfl
theorem dc_Mo_findParts_131 : decode cd_Mo_findParts 131 = .ok (.iastore, 1) := dq_at (q := (131, .iastore, 1)) dm_Mo_findParts_60 21 rfl
theorem dc_Mo_findParts_132 : decode cd_Mo_findParts 132 = .ok (.iinc 3 1, 3) := dq_at (q := (132, .iinc 3 1, 3)) dm_Mo_findParts_60 22 rfl
theorem dc_Mo_findParts_135 : decode cd_Mo_findParts 135 = .ok (.goto (-90), 3) := dq_at (q := (135, .goto (-90), 3)) dm_Mo_findParts_60 23 rfl
theorem dc_Mo_findParts_138 : decode cd_Mo_findParts 138 = .ok (.iinc 2 1, 3) := dq_at (q := (138, .iinc 2 1, 3)) dm_Mo_findParts_60 24 rfl
theorem dc_Mo_findParts_141 : decode cd_Mo_findParts 141 = .ok (.goto (-106), 3) := dq_at (q := (141, .goto (-106), 3)) dm_Mo_findParts_60 25 rfl
theorem dc_Mo_findParts_144 : decode cd_Mo_findParts 144 = .ok (.iinc 1 1, 3) := dq_at (q := (144, .iinc 1 1, 3)) dm_Mo_findParts_60 26 rfl
theorem dc_Mo_findParts_147 : decode cd_Mo_findParts 147 = .ok (.goto (-122), 3) := dq_at (q := (147, .goto (-122), 3)) dm_Mo_findParts_60 27 rfl
theorem dc_Mo_findParts_150 : decode cd_Mo_findParts 150 = .ok (.iconst 0, 1) := dq_at (q := (150, .iconst 0, 1)) dm_Mo_findParts_60 28 rfl
theorem dc_Mo_findParts_151 : decode cd_Mo_findParts 151 = .ok (.istore_n 1, 1) := dq_at (q := (151, .istore_n 1, 1)) dm_Mo_findParts_60 29 rfl
theorem dc_Mo_findParts_152 : decode cd_Mo_findParts 152 = .ok (.iconst 0, 1) := dq_at (q := (152, .iconst 0, 1)) dm_Mo_findParts_60 30 rfl
theorem dc_Mo_findParts_153 : decode cd_Mo_findParts 153 = .ok (.istore_n 2, 1) := dq_at (q := (153, .istore_n 2, 1)) dm_Mo_findParts_60 31 rfl
theorem dc_Mo_findParts_154 : decode cd_Mo_findParts 154 = .ok (.iload_n 2, 1) := dq_at (q := (154, .iload_n 2, 1)) dm_Mo_findParts_60 32 rfl
theorem dc_Mo_findParts_155 : decode cd_Mo_findParts 155 = .ok (.aload_n 0, 1) := dq_at (q := (155, .aload_n 0, 1)) dm_Mo_findParts_60 33 rfl
theorem dc_Mo_findParts_156 : decode cd_Mo_findParts 156 = .ok (.getfield 7, 3) := dq_at (q := (156, .getfield 7, 3)) dm_Mo_findParts_60 34 rfl
theorem dc_Mo_findParts_159 : decode cd_Mo_findParts 159 = .ok (.if_icmp .gt 157, 3) := dq_at (q := (159, .if_icmp .gt 157, 3)) dm_Mo_findParts_60 35 rfl
theorem dc_Mo_findParts_162 : decode cd_Mo_findParts 162 = .ok (.iconst 0, 1) := dq_at (q := (162, .iconst 0, 1)) dm_Mo_findParts_60 36 rfl
theorem dc_Mo_findParts_163 : decode cd_Mo_findParts 163 = .ok (.istore_n 3, 1) := dq_at (q := (163, .istore_n 3, 1)) dm_Mo_findParts_60 37 rfl
theorem dc_Mo_findParts_164 : decode cd_Mo_findParts 164 = .ok (.iconst 0, 1) := dq_at (q := (164, .iconst 0, 1)) dm_Mo_findParts_60 38 rfl
theorem dc_Mo_findParts_165 : decode cd_Mo_findParts 165 = .ok (.istore 4, 2) := dq_at (q := (165, .istore 4, 2)) dm_Mo_findParts_60 39 rfl
theorem dc_Mo_findParts_167 : decode cd_Mo_findParts 167 = .ok (.iconst 0, 1) := dq_at (q := (167, .iconst 0, 1)) dm_Mo_findParts_60 40 rfl
theorem dc_Mo_findParts_168 : decode cd_Mo_findParts 168 = .ok (.istore 5, 2) := dq_at (q := (168, .istore 5, 2)) dm_Mo_findParts_60 41 rfl
theorem dc_Mo_findParts_170 : decode cd_Mo_findParts 170 = .ok (.iload 5, 2) := dq_at (q := (170, .iload 5, 2)) dm_Mo_findParts_60 42 rfl
theorem dc_Mo_findParts_172 : decode cd_Mo_findParts 172 = .ok (.aload_n 0, 1) := dq_at (q := (172, .aload_n 0, 1)) dm_Mo_findParts_60 43 rfl
theorem dc_Mo_findParts_173 : decode cd_Mo_findParts 173 = .ok (.getfield 7, 3) := dq_at (q := (173, .getfield 7, 3)) dm_Mo_findParts_60 44 rfl
theorem dc_Mo_findParts_176 : decode cd_Mo_findParts 176 = .ok (.if_icmp .gt 60, 3) := dq_at (q := (176, .if_icmp .gt 60, 3)) dm_Mo_findParts_60 45 rfl
theorem dc_Mo_findParts_179 : decode cd_Mo_findParts 179 = .ok (.aload_n 0, 1) := dq_at (q := (179, .aload_n 0, 1)) dm_Mo_findParts_60 46 rfl
theorem dc_Mo_findParts_180 : decode cd_Mo_findParts 180 = .ok (.getfield 60, 3) := dq_at (q := (180, .getfield 60, 3)) dm_Mo_findParts_60 47 rfl
theorem dc_Mo_findParts_183 : decode cd_Mo_findParts 183 = .ok (.iload 5, 2) := dq_at (q := (183, .iload 5, 2)) dm_Mo_findParts_60 48 rfl
theorem dc_Mo_findParts_185 : decode cd_Mo_findParts 185 = .ok (.iaload, 1) := dq_at (q := (185, .iaload, 1)) dm_Mo_findParts_60 49 rfl
theorem dc_Mo_findParts_186 : decode cd_Mo_findParts 186 = .ok (.iload_n 2, 1) := dq_at (q := (186, .iload_n 2, 1)) dm_Mo_findParts_60 50 rfl
theorem dc_Mo_findParts_187 : decode cd_Mo_findParts 187 = .ok (.if_icmp .ne 9, 3) := dq_at (q := (187, .if_icmp .ne 9, 3)) dm_Mo_findParts_60 51 rfl
theorem dc_Mo_findParts_190 : decode cd_Mo_findParts 190 = .ok (.iload_n 3, 1) := dq_at (q := (190, .iload_n 3, 1)) dm_Mo_findParts_60 52 rfl
theorem dc_Mo_findParts_191 : decode cd_Mo_findParts 191 = .ok (.iconst 1, 1) := dq_at (q := (191, .iconst 1, 1)) dm_Mo_findParts_60 53 rfl
theorem dc_Mo_findParts_192 : decode cd_Mo_findParts 192 = .ok (.iadd, 1) := dq_at (q := (192, .iadd, 1)) dm_Mo_findParts_60 54 rfl
theorem dc_Mo_findParts_193 : decode cd_Mo_findParts 193 = .ok (.goto 4, 3) := dq_at (q := (193, .goto 4, 3)) dm_Mo_findParts_60 55 rfl
theorem dc_Mo_findParts_196 : decode cd_Mo_findParts 196 = .ok (.iload_n 3, 1) := dq_at (q := (196, .iload_n 3, 1)) dm_Mo_findParts_60 56 rfl
theorem dc_Mo_findParts_197 : decode cd_Mo_findParts 197 = .ok (.istore_n 3, 1) := dq_at (q := (197, .istore_n 3, 1)) dm_Mo_findParts_60 57 rfl
theorem dc_Mo_findParts_198 : decode cd_Mo_findParts 198 = .ok (.iload 4, 2) := dq_at (q := (198, .iload 4, 2)) dm_Mo_findParts_60 58 rfl
theorem dc_Mo_findParts_200 : decode cd_Mo_findParts 200 = .ok (.ifCond .ne 23, 3) := dq_at (q := (200, .ifCond .ne 23, 3)) dm_Mo_findParts_60 59 rfl
def dl_Mo_findParts_120 : List (Nat × Instr × Nat) := [(203, .aload_n 0, 1), (204, .getfield 60, 3), (207, .iload 5, 2), (209, .iaload, 1), (210, .iload_n 2, 1), (211, .if_icmp .ne 16, 3), (214, .aload_n 0, 1), (215, .iload 5, 2), (217, .invokevirtual 139, 3), (220, .ifCond .eq 7, 3), (223, .iconst 1, 1), (224, .goto 4, 3), (227, .iconst 0, 1), (228, .istore 4, 2), (230, .iinc 5 1, 3), (233, .goto (-63), 3), (236, .aload_n 0, 1), (237, .iload_n 2, 1), (238, .invokevirtual 132, 3), (241, .aload_n 0, 1), (242, .iload_n 2, 1), (243, .invokevirtual 128, 3), (246, .iconst 1, 1), (247, .iadd, 1), (248, .if_icmp .ne 17, 3), (251, .aload_n 0, 1), (252, .iload_n 2, 1), (253, .invokevirtual 128, 3), (256, .iconst 2, 1), (257, .irem, 1), (258, .ifCond .ne 7, 3), (261, .iconst 1, 1), (262, .goto 4, 3), (265, .iconst 0, 1), (266, .istore 5, 2), (268, .aload_n 0, 1), (269, .getfield 63, 3), (272, .iload_n 2, 1), (273, .iload_n 3, 1), (274, .ifCond .le 22, 3), (277, .iload 4, 2), (279, .ifCond .ne 17, 3), (282, .iload_n 3, 1), (283, .iconst 1, 1), (284, .if_icmp .ne 8, 3), (287, .iload 5, 2), (289, .ifCond .ne 7, 3), (292, .iconst 1, 1), (293, .goto 4, 3), (296, .iconst 0, 1), (297, .bastore, 1), (298, .iload_n 3, 1), (299, .ifCond .le 9, 3), (302, .iload_n 1, 1), (303, .iconst 1, 1), (304, .iadd, 1), (305, .goto 4, 3), (308, .iload_n 1, 1), (309, .istore_n 1, 1), (310, .iinc 2 1, 3)]
theorem dm_Mo_findParts_120 : dl_Mo_findParts_120.all (fun q => decide (decode cd_Mo_findParts q.1 = .ok (q.2.1, q.2.2))) = true := by decide +kernel
theorem dc_Mo_findParts_203 : decode cd_Mo_findParts 203 = .ok (.aload_n 0, 1) := dq_at (q := (203, .aload_n 0, 1)) dm_Mo_findParts_120 0 rfl
theorem dc_Mo_findParts_204 : decode cd_Mo_findParts 204 = .ok (.getfield 60, 3) := dq_at (q := (204, .getfield 60, 3)) dm_Mo_findParts_120 1 rfl
theorem dc_Mo_findParts_207 : decode cd_Mo_findParts 207 = .ok (.iload 5, 2) := dq_at (q := (207, .iload 5, 2)) dm_Mo_findParts_120 2 rfl
theorem dc_Mo_findParts_209 : decode cd_Mo_findParts 209 = .ok (.iaload, 1) := dq_at (q := (209, .iaload, 1)) dm_Mo_findParts_120 3 rfl
theorem dc_Mo_findParts_210 : decode cd_Mo_findParts 210 = .ok (.iload_n 2, 1) := dq_at (q := (210, .iload_n 2, 1)) dm_Mo_findParts_120 4 rfl
theorem dc_Mo_findParts_211 : decode cd_Mo_findParts 211 = .ok (.if_icmp .ne 16, 3) := dq_at (q := (211, .if_icmp .ne 16, 3)) dm_Mo_findParts_120 5 rfl
theorem dc_Mo_findParts_214 : decode cd_Mo_findParts 214 = .ok (.aload_n 0, 1) := dq_at (q := (214, .aload_n 0, 1)) dm_Mo_findParts_120 6 rfl
theorem dc_Mo_findParts_215 : decode cd_Mo_findParts 215 = .ok (.iload 5, 2) := dq_at (q := (215, .iload 5, 2)) dm_Mo_findParts_120 7 rfl
theorem dc_Mo_findParts_217 : decode cd_Mo_findParts 217 = .ok (.invokevirtual 139, 3) := dq_at (q := (217, .invokevirtual 139, 3)) dm_Mo_findParts_120 8 rfl
theorem dc_Mo_findParts_220 : decode cd_Mo_findParts 220 = .ok (.ifCond .eq 7, 3) := dq_at (q := (220, .ifCond .eq 7, 3)) dm_Mo_findParts_120 9 rfl
theorem dc_Mo_findParts_223 : decode cd_Mo_findParts 223 = .ok (.iconst 1, 1) := dq_at (q := (223, .iconst 1, 1)) dm_Mo_findParts_120 10 rfl
theorem dc_Mo_findParts_224 : decode cd_Mo_findParts 224 = .ok (.goto 4, 3) := dq_at (q := (224, .goto 4, 3)) dm_Mo_findParts_120 11 rfl
theorem dc_Mo_findParts_227 : decode cd_Mo_findParts 227 = .ok (.iconst 0, 1) := dq_at (q := (227, .iconst 0, 1)) dm_Mo_findParts_120 12 rfl
theorem dc_Mo_findParts_228 : decode cd_Mo_findParts 228 = .ok (.istore 4, 2) := dq_at (q := (228, .istore 4, 2)) dm_Mo_findParts_120 13 rfl
theorem dc_Mo_findParts_230 : decode cd_Mo_findParts 230 = .ok (.iinc 5 1, 3) := dq_at (q := (230, .iinc 5 1, 3)) dm_Mo_findParts_120 14 rfl
theorem dc_Mo_findParts_233 : decode cd_Mo_findParts 233 = .ok (.goto (-63), 3) := dq_at (q := (233, .goto (-63), 3)) dm_Mo_findParts_120 15 rfl
theorem dc_Mo_findParts_236 : decode cd_Mo_findParts 236 = .ok (.aload_n 0, 1) := dq_at (q := (236, .aload_n 0, 1)) dm_Mo_findParts_120 16 rfl
theorem dc_Mo_findParts_237 : decode cd_Mo_findParts 237 = .ok (.iload_n 2, 1) := dq_at (q := (237, .iload_n 2, 1)) dm_Mo_findParts_120 17 rfl
theorem dc_Mo_findParts_238 : decode cd_Mo_findParts 238 = .ok (.invokevirtual 132, 3) := dq_at (q := (238, .invokevirtual 132, 3)) dm_Mo_findParts_120 18 rfl
theorem dc_Mo_findParts_241 : decode cd_Mo_findParts 241 = .ok (.aload_n 0, 1) := dq_at (q := (241, .aload_n 0, 1)) dm_Mo_findParts_120 19 rfl
theorem dc_Mo_findParts_242 : decode cd_Mo_findParts 242 = .ok (.iload_n 2, 1) := dq_at (q := (242, .iload_n 2, 1)) dm_Mo_findParts_120 20 rfl
theorem dc_Mo_findParts_243 : decode cd_Mo_findParts 243 = .ok (.invokevirtual 128, 3) := dq_at (q := (243, .invokevirtual 128, 3)) dm_Mo_findParts_120 21 rfl
theorem dc_Mo_findParts_246 : decode cd_Mo_findParts 246 = .ok (.iconst 1, 1) := dq_at (q := (246, .iconst 1, 1)) dm_Mo_findParts_120 22 rfl
theorem dc_Mo_findParts_247 : decode cd_Mo_findParts 247 = .ok (.iadd, 1) := dq_at (q := (247, .iadd, 1)) dm_Mo_findParts_120 23 rfl
theorem dc_Mo_findParts_248 : decode cd_Mo_findParts 248 = .ok (.if_icmp .ne 17, 3) := dq_at (q := (248, .if_icmp .ne 17, 3)) dm_Mo_findParts_120 24 rfl
theorem dc_Mo_findParts_251 : decode cd_Mo_findParts 251 = .ok (.aload_n 0, 1) := dq_at (q := (251, .aload_n 0, 1)) dm_Mo_findParts_120 25 rfl
theorem dc_Mo_findParts_252 : decode cd_Mo_findParts 252 = .ok (.iload_n 2, 1) := dq_at (q := (252, .iload_n 2, 1)) dm_Mo_findParts_120 26 rfl
theorem dc_Mo_findParts_253 : decode cd_Mo_findParts 253 = .ok (.invokevirtual 128, 3) := dq_at (q := (253, .invokevirtual 128, 3)) dm_Mo_findParts_120 27 rfl
theorem dc_Mo_findParts_256 : decode cd_Mo_findParts 256 = .ok (.iconst 2, 1) := dq_at (q := (256, .iconst 2, 1)) dm_Mo_findParts_120 28 rfl
theorem dc_Mo_findParts_257 : decode cd_Mo_findParts 257 = .ok (.irem, 1) := dq_at (q := (257, .irem, 1)) dm_Mo_findParts_120 29 rfl
theorem dc_Mo_findParts_258 : decode cd_Mo_findParts 258 = .ok (.ifCond .ne 7, 3) := dq_at (q := (258, .ifCond .ne 7, 3)) dm_Mo_findParts_120 30 rfl
theorem dc_Mo_findParts_261 : decode cd_Mo_findParts 261 = .ok (.iconst 1, 1) := dq_at (q := (261, .iconst 1, 1)) dm_Mo_findParts_120 31 rfl
theorem dc_Mo_findParts_262 : decode cd_Mo_findParts 262 = .ok (.goto 4, 3) := dq_at (q := (262, .goto 4, 3)) dm_Mo_findParts_120 32 rfl
theorem dc_Mo_findParts_265 : decode cd_Mo_findParts 265 = .ok (.iconst 0, 1) := dq_at (q := (265, .iconst 0, 1)) dm_Mo_findParts_120 33 rfl
theorem dc_Mo_findParts_266 : decode cd_Mo_findParts 266 = .ok (.istore 5, 2) := dq_at (q := (266, .istore 5, 2)) dm_Mo_findParts_120 34 rfl
theorem dc_Mo_findParts_268 : decode cd_Mo_findParts 268 = .ok (.aload_n 0, 1) := dq_at (q := (268, .aload_n 0, 1)) dm_Mo_findParts_120 35 rfl
theorem dc_Mo_findParts_269 : decode cd_Mo_findParts 269 = .ok (.getfield 63, 3) := dq_at (q := (269, .getfield 63, 3)) dm_Mo_findParts_120 36 rfl
theorem dc_Mo_findParts_272 : decode cd_Mo_findParts 272 = .ok (.iload_n 2, 1) := dq_at (q := (272, .iload_n 2, 1)) dm_Mo_findParts_120 37 rfl
theorem dc_Mo_findParts_273 : decode cd_Mo_findParts 273 = .ok (.iload_n 3, 1) := dq_at (q := (273, .iload_n 3, 1)) dm_Mo_findParts_120 38 rfl
theorem dc_Mo_findParts_274 : decode cd_Mo_findParts 274 = .ok (.ifCond .le 22, 3) := dq_at (q := (274, .ifCond .le 22, 3)) dm_Mo_findParts_120 39 rfl
theorem dc_Mo_findParts_277 : decode cd_Mo_findParts 277 = .ok (.iload 4, 2) := dq_at (q := (277, .iload 4, 2)) dm_Mo_findParts_120 40 rfl
theorem dc_Mo_findParts_279 : decode cd_Mo_findParts 279 = .ok (.ifCond .ne 17, 3) := dq_at (q := (279, .ifCond .ne 17, 3)) dm_Mo_findParts_120 41 rfl
theorem dc_Mo_findParts_282 : decode cd_Mo_findParts 282 = .ok (.iload_n 3, 1) := dq_at (q := (282, .iload_n 3, 1)) dm_Mo_findParts_120 42 rfl
theorem dc_Mo_findParts_283 : decode cd_Mo_findParts 283 = .ok (.iconst 1, 1) := dq_at (q := (283, .iconst 1, 1)) dm_Mo_findParts_120 43 rfl
theorem dc_Mo_findParts_284 : decode cd_Mo_findParts 284 = .ok (.if_icmp .ne 8, 3) := dq_at (q := (284, .if_icmp .ne 8, 3)) dm_Mo_findParts_120 44 rfl
theorem dc_Mo_findParts_287 : decode cd_Mo_findParts 287 = .ok (.iload 5, 2) := dq_at (q := (287, .iload 5, 2)) dm_Mo_findParts_120 45 rfl
theorem dc_Mo_findParts_289 : decode cd_Mo_findParts 289 = .ok (.ifCond .ne 7, 3) := dq_at (q := (289, .ifCond .ne 7, 3)) dm_Mo_findParts_120 46 rfl
theorem dc_Mo_findParts_292 : decode cd_Mo_findParts 292 = .ok (.iconst 1, 1) := dq_at (q := (292, .iconst 1, 1)) dm_Mo_findParts_120 47 rfl
theorem dc_Mo_findParts_293 : decode cd_Mo_findParts 293 = .ok (.goto 4, 3) := dq_at (q := (293, .goto 4, 3)) dm_Mo_findParts_120 48 rfl
theorem dc_Mo_findParts_296 : decode cd_Mo_findParts 296 = .ok (.iconst 0, 1) := dq_at (q := (296, .iconst 0, 1)) dm_Mo_findParts_120 49 rfl
theorem dc_Mo_findParts_297 : decode cd_Mo_findParts 297 = .ok (.bastore, 1) := dq_at (q := (297, .bastore, 1)) dm_Mo_findParts_120 50 rfl
theorem dc_Mo_findParts_298 : decode cd_Mo_findParts 298 = .ok (.iload_n 3, 1) := dq_at (q := (298, .iload_n 3, 1)) dm_Mo_findParts_120 51 rfl
theorem dc_Mo_findParts_299 : decode cd_Mo_findParts 299 = .ok (.ifCond .le 9, 3) := dq_at (q := (299, .ifCond .le 9, 3)) dm_Mo_findParts_120 52 rfl
theorem dc_Mo_findParts_302 : decode cd_Mo_findParts 302 = .ok (.iload_n 1, 1) := dq_at (q := (302, .iload_n 1, 1)) dm_Mo_findParts_120 53 rfl
theorem dc_Mo_findParts_303 : decode cd_Mo_findParts 303 = .ok (.iconst 1, 1) := dq_at (q := (303, .iconst 1, 1)) dm_Mo_findParts_120 54 rfl
theorem dc_Mo_findParts_304 : decode cd_Mo_findParts 304 = .ok (.iadd, 1) := dq_at (q := (304, .iadd, 1)) dm_Mo_findParts_120 55 rfl
theorem dc_Mo_findParts_305 : decode cd_Mo_findParts 305 = .ok (.goto 4, 3) := dq_at (q := (305, .goto 4, 3)) dm_Mo_findParts_120 56 rfl
theorem dc_Mo_findParts_308 : decode cd_Mo_findParts 308 = .ok (.iload_n 1, 1) := dq_at (q := (308, .iload_n 1, 1)) dm_Mo_findParts_120 57 rfl
theorem dc_Mo_findParts_309 : decode cd_Mo_findParts 309 = .ok (.istore_n 1, 1) := dq_at (q := (309, .istore_n 1, 1)) dm_Mo_findParts_120 58 rfl
theorem dc_Mo_findParts_310 : decode cd_Mo_findParts 310 = .ok (.iinc 2 1, 3) := dq_at (q := (310, .iinc 2 1, 3)) dm_Mo_findParts_120 59 rfl
def dl_Mo_findParts_180 : List (Nat × Instr × Nat) := [(313, .goto (-159), 3), (316, .iload_n 1, 1), (317, .ireturn, 1)]
theorem dm_Mo_findParts_180 : dl_Mo_findParts_180.all (fun q => decide (decode cd_Mo_findParts q.1 = .ok (q.2.1, q.2.2))) = true := by decide +kernel
theorem dc_Mo_findParts_313 : decode cd_Mo_findParts 313 = .ok (.goto (-159), 3) := dq_at (q := (313, .goto (-159), 3)) dm_Mo_findParts_180 0 rfl
theorem dc_Mo_findParts_316 : decode cd_Mo_findParts 316 = .ok (.iload_n 1, 1) := dq_at (q := (316, .iload_n 1, 1)) dm_Mo_findParts_180 1 rfl
theorem dc_Mo_findParts_317 : decode cd_Mo_findParts 317 = .ok (.ireturn, 1) := dq_at (q := (317, .ireturn, 1)) dm_Mo_findParts_180 2 rfl
def dl_Mo_hurdles_0 : List (Nat × Instr × Nat) := [(0, .iconst 0, 1), (1, .istore_n 1, 1), (2, .iconst 0, 1), (3, .istore_n 2, 1), (4, .iload_n 2, 1), (5, .iconst 2, 1), (6, .aload_n 0, 1), (7, .getfield 7, 3), (10, .imul, 1), (11, .iconst 1, 1), (12, .iadd, 1), (13, .if_icmp .gt 42, 3), (16, .aload_n 0, 1), (17, .getfield 60, 3), (20, .aload_n 0, 1), (21, .getfield 54, 3), (24, .iload_n 2, 1), (25, .iaload, 1), (26, .iconst 2, 1), (27, .idiv, 1), (28, .iaload, 1), (29, .istore_n 3, 1), (30, .aload_n 0, 1), (31, .getfield 63, 3), (34, .iload_n 3, 1), (35, .baload, 1), (36, .ifCond .eq 13, 3), (39, .aload_n 0, 1), (40, .getfield 69, 3), (43, .iload_n 1, 1), (44, .iload_n 3, 1), (45, .iastore, 1), (46, .iinc 1 1, 3), (49, .iinc 2 1, 3), (52, .goto (-48), 3), (55, .iconst 0, 1), (56, .istore_n 2, 1), (57, .iconst 0, 1), (58, .istore_n 3, 1), (59, .iload_n 3, 1), (60, .aload_n 0, 1), (61, .getfield 7, 3), (64, .if_icmp .gt 87, 3), (67, .iconst 0, 1), (68, .istore 4, 2), (70, .iconst 0, 1), (71, .istore 5, 2), (73, .iload 5, 2), (75, .iload_n 1, 1), (76, .if_icmp .ge 46, 3), (79, .aload_n 0, 1), (80, .getfield 69, 3), (83, .iload 5, 2), (85, .iaload, 1), (86, .iload_n 3, 1), (87, .if_icmp .ne 25, 3), (90, .aload_n 0, 1), (91, .getfield 69, 3), (94, .iload 5, 2), (96, .iconst 1, 1)]
theorem dm_Mo_hurdles_0 : dl_Mo_hurdles_0.all (fun q => decide (decode cd_Mo_hurdles q.1 = .ok (q.2.1, q.2.2))) = true := by decide +kernel
theorem dc_Mo_hurdles_0 : decode cd_Mo_hurdles 0 = .ok (.iconst 0, 1) := dq_at (q := (0, .iconst 0, 1)) dm_Mo_hurdles_0 0 rfl
theorem dc_Mo_hurdles_1 : decode cd_Mo_hurdles 1 = .ok (.istore_n 1, 1) := dq_at (q := (1, .istore_n 1, 1)) dm_Mo_hurdles_0 1 rfl
theorem dc_Mo_hurdles_2 : decode cd_Mo_hurdles 2 = .ok (.iconst 0, 1) := dq_at (q := (2, .iconst 0, 1)) dm_Mo_hurdles_0 2 rfl
theorem dc_Mo_hurdles_3 : decode cd_Mo_hurdles 3 = .ok (.istore_n 2, 1) := dq_at (q := (3, .istore_n 2, 1)) dm_Mo_hurdles_0 3 rfl
theorem dc_Mo_hurdles_4 : decode cd_Mo_hurdles 4 = .ok (.iload_n 2, 1) := dq_at (q := (4, .iload_n 2, 1)) dm_Mo_hurdles_0 4 rfl
theorem dc_Mo_hurdles_5 : decode cd_Mo_hurdles 5 = .ok (.iconst 2, 1) := dq_at (q := (5, .iconst 2, 1)) dm_Mo_hurdles_0 5 rfl
theorem dc_Mo_hurdles_6 : decode cd_Mo_hurdles 6 = .ok (.aload_n 0, 1) := dq_at (q := (6, .aload_n 0, 1)) dm_Mo_hurdles_0 6 rfl
theorem dc_Mo_hurdles_7 : decode cd_Mo_hurdles 7 = .ok (.getfield 7, 3) := dq_at (q := (7, .getfield 7, 3)) dm_Mo_hurdles_0 7 rfl
theorem dc_Mo_hurdles_10 : decode cd_Mo_hurdles 10 = .ok (.imul, 1) := dq_at (q := (10, .imul, 1)) dm_Mo_hurdles_0 8 rfl
theorem dc_Mo_hurdles_11 : decode cd_Mo_hurdles 11 = .ok (.iconst 1, 1) := dq_at (q := (11, .iconst 1, 1)) dm_Mo_hurdles_0 9 rfl
theorem dc_Mo_hurdles_12 : decode cd_Mo_hurdles 12 = .ok (.iadd, 1) := dq_at (q := (12, .iadd, 1)) dm_Mo_hurdles_0 10 rfl
theorem dc_Mo_hurdles_13 : decode cd_Mo_hurdles 13 = .ok (.if_icmp .gt 42, 3) := dq_at (q := (13, .if_icmp .gt 42, 3)) dm_Mo_hurdles_0 11 rfl
theorem dc_Mo_hurdles_16 : decode cd_Mo_hurdles 16 = .ok (.aload_n 0, 1) := dq_at (q := (16, .aload_n 0, 1)) dm_Mo_hurdles_0 12 rfl
theorem dc_Mo_hurdles_17 : decode cd_Mo_hurdles 17 = .ok (.getfield 60, 3) := dq_at (q := (17, .getfield 60, 3)) dm_Mo_hurdles_0 13 rfl
theorem dc_Mo_hurdles_20 : decode cd_Mo_hurdles 20 = .ok (.aload_n 0, 1) := dq_at (q := (20, .aload_n 0, 1)) dm_Mo_hurdles_0 14 rfl
theorem dc_Mo_hurdles_21 : decode cd_Mo_hurdles 21 = .ok (.getfield 54, 3) := dq_at (q := (21, .getfield 54, 3)) dm_Mo_hurdles_0 15 rfl
theorem dc_Mo_hurdles_24 : decode cd_Mo_hurdles 24 = .ok (.iload_n 2, 1) := dq_at (q := (24, .iload_n 2, 1)) dm_Mo_hurdles_0 16 rfl
theorem dc_Mo_hurdles_25 : decode cd_Mo_hurdles 25 = .ok (.iaload, 1) := dq_at (q := (25, .iaload, 1)) dm_Mo_hurdles_0 17 rfl
theorem dc_Mo_hurdles_26 : decode cd_Mo_hurdles 26 = .ok (.iconst 2, 1) := dq_at (q := (26, .iconst 2, 1)) dm_Mo_hurdles_0 18 rfl
theorem dc_Mo_hurdles_27 : decode cd_Mo_hurdles 27 = .ok (.idiv, 1) := dq_at (q := (27, .idiv, 1)) dm_Mo_hurdles_0 19 rfl
theorem dc_Mo_hurdles_28 : decode cd_Mo_hurdles 28 = .ok (.iaload, 1) := dq_at (q := (28, .iaload, 1)) dm_Mo_hurdles_0 20 rfl
theorem dc_Mo_hurdles_29 : decode cd_Mo_hurdles 29 = .ok (.istore_n 3, 1) := dq_at (q := (29, .istore_n 3, 1)) dm_Mo_hurdles_0 21 rfl
theorem dc_Mo_hurdles_30 : decode cd_Mo_hurdles 30 = .ok (.aload_n 0, 1) := dq_at (q := (30, .aload_n 0, 1)) dm_Mo_hurdles_0 22 rfl
theorem dc_Mo_hurdles_31 : decode cd_Mo_hurdles 31 = .ok (.getfield 63, 3) := dq_at (q := (31, .getfield 63, 3)) dm_Mo_hurdles_0 23 rfl
theorem dc_Mo_hurdles_34 : decode cd_Mo_hurdles 34 = .ok (.iload_n 3, 1) := dq_at (q := (34, .iload_n 3, 1)) dm_Mo_hurdles_0 24 rfl
theorem dc_Mo_hurdles_35 : decode cd_Mo_hurdles 35 = .ok (.baload, 1) := dq_at (q := (35, .baload, 1)) dm_Mo_hurdles_0 25 rfl
theorem dc_Mo_hurdles_36 : decode cd_Mo_hurdles 36 = .ok (.ifCond .eq 13, 3) := dq_at (q := (36, .ifCond .eq 13, 3)) dm_Mo_hurdles_0 26 rfl
theorem dc_Mo_hurdles_39 : decode cd_Mo_hurdles 39 = .ok (.aload_n 0, 1) := dq_at (q := (39, .aload_n 0, 1)) dm_Mo_hurdles_0 27 rfl
theorem dc_Mo_hurdles_40 : decode cd_Mo_hurdles 40 = .ok (.getfield 69, 3) := dq_at (q := (40, .getfield 69, 3)) dm_Mo_hurdles_0 28 rfl
theorem dc_Mo_hurdles_43 : decode cd_Mo_hurdles 43 = .ok (.iload_n 1, 1) := dq_at (q := (43, .iload_n 1, 1)) dm_Mo_hurdles_0 29 rfl
theorem dc_Mo_hurdles_44 : decode cd_Mo_hurdles 44 = .ok (.iload_n 3, 1) := dq_at (q := (44, .iload_n 3, 1)) dm_Mo_hurdles_0 30 rfl
theorem dc_Mo_hurdles_45 : decode cd_Mo_hurdles 45 = .ok (.iastore, 1) := dq_at (q := (45, .iastore, 1)) dm_Mo_hurdles_0 31 rfl
theorem dc_Mo_hurdles_46 : decode cd_Mo_hurdles 46 = .ok (.iinc 1 1, 3) := dq_at (q := (46, .iinc 1 1, 3)) dm_Mo_hurdles_0 32 rfl
theorem dc_Mo_hurdles_49 : decode cd_Mo_hurdles 49 = .ok (.iinc 2 1, 3) := dq_at (q := (49, .iinc 2 1, 3)) dm_Mo_hurdles_0 33 rfl
theorem dc_Mo_hurdles_52 : decode cd_Mo_hurdles 52 = .ok (.goto (-48), 3) := dq_at (q := (52, .goto (-48), 3)) dm_Mo_hurdles_0 34 rfl
theorem dc_Mo_hurdles_55 : decode cd_Mo_hurdles 55 = .ok (.iconst 0, 1) := dq_at (q := (55, .iconst 0, 1)) dm_Mo_hurdles_0 35 rfl
theorem dc_Mo_hurdles_56 : decode cd_Mo_hurdles 56 = .ok (.istore_n 2, 1) := dq_at (q := (56, .istore_n 2, 1)) dm_Mo_hurdles_0 36 rfl
theorem dc_Mo_hurdles_57 : decode cd_Mo_hurdles 57 = .ok (.iconst 0, 1) := dq_at (q := (57, .iconst 0, 1)) dm_Mo_hurdles_0 37 rfl
theorem dc_Mo_hurdles_58 : decode cd_Mo_hurdles 58 = .ok (.istore_n 3, 1) := dq_at (q := (58, .istore_n 3, 1)) dm_Mo_hurdles_0 38 rfl
theorem dc_Mo_hurdles_59 : decode cd_Mo_hurdles 59 = .ok (.iload_n 3, 1) := dq_at (q := (59, .iload_n 3, 1)) dm_Mo_hurdles_0 39 rfl
theorem dc_Mo_hurdles_60 : decode cd_Mo_hurdles 60 = .ok (.aload_n 0, 1) := dq_at (q := (60, .aload_n 0, 1)) dm_Mo_hurdles_0 40 rfl
theorem dc_Mo_hurdles_61 : decode cd_Mo_hurdles 61 = .ok (.getfield 7, 3) := dq_at (q := (61, .getfield 7, 3)) dm_Mo_hurdles_0 41 rfl
theorem dc_Mo_hurdles_64 : decode cd_Mo_hurdles 64 = .ok (.if_icmp .gt 87, 3) := dq_at (q := (64, .if_icmp .gt 87, 3)) dm_Mo_hurdles_0 42 rfl
theorem dc_Mo_hurdles_67 : decode cd_Mo_hurdles 67 = .ok (.iconst 0, 1) := dq_at (q := (67, .iconst 0, 1)) dm_Mo_hurdles_0 43 rfl
theorem dc_Mo_hurdles_68 : decode cd_Mo_hurdles 68 = .ok (.istore 4, 2) := dq_at (q := (68, .istore 4, 2)) dm_Mo_hurdles_0 44 rfl
theorem dc_Mo_hurdles_70 : decode cd_Mo_hurdles 70 = .ok (.iconst 0, 1) := dq_at (q := (70, .iconst 0, 1)) dm_Mo_hurdles_0 45 rfl
theorem dc_Mo_hurdles_71 : decode cd_Mo_hurdles 71 = .ok (.istore 5, 2) := dq_at (q := (71, .istore 5, 2)) dm_Mo_hurdles_0 46 rfl
theorem dc_Mo_hurdles_73 : decode cd_Mo_hurdles 73 = .ok (.iload 5, 2) := dq_at (q := (73, .iload 5, 2)) dm_Mo_hurdles_0 47 rfl
theorem dc_Mo_hurdles_75 : decode cd_Mo_hurdles 75 = .ok (.iload_n 1, 1) := dq_at (q := (75, .iload_n 1, 1)) dm_Mo_hurdles_0 48 rfl
theorem dc_Mo_hurdles_76 : decode cd_Mo_hurdles 76 = .ok (.if_icmp .ge 46, 3) := dq_at (q := (76, .if_icmp .ge 46, 3)) dm_Mo_hurdles_0 49 rfl
theorem dc_Mo_hurdles_79 : decode cd_Mo_hurdles 79 = .ok (.aload_n 0, 1) := dq_at (q := (79, .aload_n 0, 1)) dm_Mo_hurdles_0 50 rfl
theorem dc_Mo_hurdles_80 : decode cd_Mo_hurdles 80 = .ok (.getfield 69, 3) := dq_at (q := (80, .getfield 69, 3)) dm_Mo_hurdles_0 51 rfl
theorem dc_Mo_hurdles_83 : decode cd_Mo_hurdles 83 = .ok (.iload 5, 2) := dq_at (q := (83, .iload 5, 2)) dm_Mo_hurdles_0 52 rfl
theorem dc_Mo_hurdles_85 : decode cd_Mo_hurdles 85 = .ok (.iaload, 1) := dq_at (q := (85, .iaload, 1)) dm_Mo_hurdles_0 53 rfl
theorem dc_Mo_hurdles_86 : decode cd_Mo_hurdles 86 = .ok (.iload_n 3, 1) := dq_at (q := (86, .iload_n 3, 1)) dm_Mo_hurdles_0 54 rfl
theorem dc_Mo_hurdles_87 : decode cd_Mo_hurdles 87 = .ok (.if_icmp .ne 25, 3) := dq_at (q := (87, .if_icmp .ne 25, 3)) dm_Mo_hurdles_0 55 rfl
theorem dc_Mo_hurdles_90 : decode cd_Mo_hurdles 90 = .ok (.aload_n 0, 1) := dq_at (q := (90, .aload_n 0, 1)) dm_Mo_hurdles_0 56 rfl
theorem dc_Mo_hurdles_91 : decode cd_Mo_hurdles 91 = .ok (.getfield 69, 3) := dq_at (q := (91, .getfield 69, 3)) dm_Mo_hurdles_0 57 rfl
theorem dc_Mo_hurdles_94 : decode cd_Mo_hurdles 94 = .ok (.iload 5, 2) := dq_at (q := (94, .iload 5, 2)) dm_Mo_hurdles_0 58 rfl
theorem dc_Mo_hurdles_96 : decode cd_Mo_hurdles 96 = .ok (.iconst 1, 1) := dq_at (q := (96, .iconst 1, 1)) dm_Mo_hurdles_0 59 rfl
def dl_Mo_hurdles_60 : List (Nat × Instr × Nat) := [(97, .iadd, 1), (98, .iload_n 1, 1), (99, .irem, 1), (100, .iaload, 1), (101, .iload_n 3, 1), (102, .if_icmp .eq 10, 3), (105, .iload 4, 2), (107, .iconst 1, 1), (108, .iadd, 1), (109, .goto 5, 3), (112, .iload 4, 2), (114, .istore 4, 2), (116, .iinc 5 1, 3), (119, .goto (-46), 3), (122, .aload_n 0, 1), (123, .getfield 63, 3), (126, .iload_n 3, 1), (127, .baload, 1), (128, .ifCond .eq 15, 3), (131, .iload 4, 2), (133, .iconst 2, 1), (134, .if_icmp .ge 9, 3), (137, .iload_n 2, 1), (138, .iconst 1, 1), (139, .iadd, 1), (140, .goto 4, 3), (143, .iload_n 2, 1), (144, .istore_n 2, 1), (145, .iinc 3 1, 3), (148, .goto (-89), 3), (151, .iload_n 2, 1), (152, .ireturn, 1)]
theorem dm_Mo_hurdles_60 : dl_Mo_hurdles_60.all (fun q => decide (decode cd_Mo_hurdles q.1 = .ok (q.2.1, q.2.2))) = true := by decide +kernel
theorem dc_Mo_hurdles_97 : decode cd_Mo_hurdles 97 = .ok (.iadd, 1) := dq_at (q := (97, .iadd, 1)) dm_Mo_hurdles_60 0 rfl
theorem dc_Mo_hurdles_98 : decode cd_Mo_hurdles 98 = .ok (.iload_n 1, 1) := dq_at (q := (98, .iload_n 1, 1)) dm_Mo_hurdles_60 1 rfl
theorem dc_Mo_hurdles_99 : decode cd_Mo_hurdles 99 = .ok (.irem, 1) := dq_at (q := (99, .irem, 1)) dm_Mo_hurdles_60 2 rfl
theorem dc_Mo_hurdles_100 : decode cd_Mo_hurdles 100 = .ok (.iaload, 1) := dq_at (q := (100, .iaload, 1)) dm_Mo_hurdles_60 3 rfl
theorem dc_Mo_hurdles_101 : decode cd_Mo_hurdles 101 = .ok (.iload_n 3, 1) := dq_at (q := (101, .iload_n 3, 1)) dm_Mo_hurdles_60 4 rfl
theorem dc_Mo_hurdles_102 : decode cd_Mo_hurdles 102 = .ok (.if_icmp .eq 10, 3) := dq_at (q := (102, .if_icmp .eq 10, 3)) dm_Mo_hurdles_60 5 rfl
theorem dc_Mo_hurdles_105 : decode cd_Mo_hurdles 105 = .ok (.iload 4, 2) := dq_at (q := (105, .iload 4, 2)) dm_Mo_hurdles_60 6 rfl
theorem dc_Mo_hurdles_107 : decode cd_Mo_hurdles 107 = .ok (.iconst 1, 1) := dq_at (q := (107, .iconst 1, 1)) dm_Mo_hurdles_60 7 rfl
theorem dc_Mo_hurdles_108 : decode cd_Mo_hurdles 108 = .ok (.iadd, 1) := dq_at (q := (108, .iadd, 1)) dm_Mo_hurdles_60 8 rfl
theorem dc_Mo_hurdles_109 : decode cd_Mo_hurdles 109 = .ok (.goto 5, 3) := dq_at (q := (109, .goto 5, 3)) dm_Mo_hurdles_60 9 rfl
theorem dc_Mo_hurdles_112 : decode cd_Mo_hurdles 112 = .ok (.iload 4, 2) := dq_at (q := (112, .iload 4, 2)) dm_Mo_hurdles_60 10 rfl
theorem dc_Mo_hurdles_114 : decode cd_Mo_hurdles 114 = .ok (.istore 4, 2) := dq_at (q := (114, .istore 4, 2)) dm_Mo_hurdles_60 11 rfl
theorem dc_Mo_hurdles_116 : decode cd_Mo_hurdles 116 = .ok (.iinc 5 1, 3) := dq_at (q := (116, .iinc 5 1, 3)) dm_Mo_hurdles_60 12 rfl
theorem dc_Mo_hurdles_119 : decode cd_Mo_hurdles 119 = .ok (.goto (-46), 3) := dq_at (q := (119, .goto (-46), 3)) dm_Mo_hurdles_60 13 rfl
theorem dc_Mo_hurdles_122 : decode cd_Mo_hurdles 122 = .ok (.aload_n 0, 1) := dq_at (q := (122, .aload_n 0, 1)) dm_Mo_hurdles_60 14 rfl
theorem dc_Mo_hurdles_123 : decode cd_Mo_hurdles 123 = .ok (.getfield 63, 3) := dq_at (q := (123, .getfield 63, 3)) dm_Mo_hurdles_60 15 rfl
theorem dc_Mo_hurdles_126 : decode cd_Mo_hurdles 126 = .ok (.iload_n 3, 1) := dq_at (q := (126, .iload_n 3, 1)) dm_Mo_hurdles_60 16 rfl
theorem dc_Mo_hurdles_127 : decode cd_Mo_hurdles 127 = .ok (.baload, 1) := dq_at (q := (127, .baload, 1)) dm_Mo_hurdles_60 17 rfl
theorem dc_Mo_hurdles_128 : decode cd_Mo_hurdles 128 = .ok (.ifCond .eq 15, 3) := dq_at (q := (128, .ifCond .eq 15, 3)) dm_Mo_hurdles_60 18 rfl
theorem dc_Mo_hurdles_131 : decode cd_Mo_hurdles 131 = .ok (.iload 4, 2) := dq_at (q := (131, .iload 4, 2)) dm_Mo_hurdles_60 19 rfl
theorem dc_Mo_hurdles_133 : decode cd_Mo_hurdles 133 = .ok (.iconst 2, 1) := dq_at (q := (133, .iconst 2, 1)) dm_Mo_hurdles_60 20 rfl
theorem dc_Mo_hurdles_134 : decode cd_Mo_hurdles 134 = .ok (.if_icmp .ge 9, 3) := dq_at (q := (134, .if_icmp .ge 9, 3)) dm_Mo_hurdles_60 21 rfl
theorem dc_Mo_hurdles_137 : decode cd_Mo_hurdles 137 = .ok (.iload_n 2, 1) := dq_at (q := (137, .iload_n 2, 1)) dm_Mo_hurdles_60 22 rfl
theorem dc_Mo_hurdles_138 : decode cd_Mo_hurdles 138 = .ok (.iconst 1, 1) := dq_at (q := (138, .iconst 1, 1)) dm_Mo_hurdles_60 23 rfl
theorem dc_Mo_hurdles_139 : decode cd_Mo_hurdles 139 = .ok (.iadd, 1) := dq_at (q := (139, .iadd, 1)) dm_Mo_hurdles_60 24 rfl
theorem dc_Mo_hurdles_140 : decode cd_Mo_hurdles 140 = .ok (.goto 4, 3) := dq_at (q := (140, .goto 4, 3)) dm_Mo_hurdles_60 25 rfl
theorem dc_Mo_hurdles_143 : decode cd_Mo_hurdles 143 = .ok (.iload_n 2, 1) := dq_at (q := (143, .iload_n 2, 1)) dm_Mo_hurdles_60 26 rfl
theorem dc_Mo_hurdles_144 : decode cd_Mo_hurdles 144 = .ok (.istore_n 2, 1) := dq_at (q := (144, .istore_n 2, 1)) dm_Mo_hurdles_60 27 rfl
theorem dc_Mo_hurdles_145 : decode cd_Mo_hurdles 145 = .ok (.iinc 3 1, 3) := dq_at (q := (145, .iinc 3 1, 3)) dm_Mo_hurdles_60 28 rfl
theorem dc_Mo_hurdles_148 : decode cd_Mo_hurdles 148 = .ok (.goto (-89), 3) := dq_at (q := (148, .goto (-89), 3)) dm_Mo_hurdles_60 29 rfl
theorem dc_Mo_hurdles_151 : decode cd_Mo_hurdles 151 = .ok (.iload_n 2, 1) := dq_at (q := (151, .iload_n 2, 1)) dm_Mo_hurdles_60 30 rfl
theorem dc_Mo_hurdles_152 : decode cd_Mo_hurdles 152 = .ok (.ireturn, 1) := dq_at (q := (152, .ireturn, 1)) dm_Mo_hurdles_60 31 rfl
