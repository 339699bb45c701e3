def dl_Dr_isWithin_0 : List (Nat × Instr × Nat) := [(0, .aload_n 0, 1), (1, .getfield 11, 3), (4, .iload_n 2, 1), (5, .iaload, 1), (6, .iload_n 1, 1), (7, .if_icmp .ge 17, 3), (10, .iload_n 1, 1), (11, .aload_n 0, 1), (12, .getfield 15, 3), (15, .iload_n 2, 1), (16, .iaload, 1), (17, .if_icmp .ge 7, 3), (20, .iconst 1, 1), (21, .goto 4, 3), (24, .iconst 0, 1), (25, .ireturn, 1)]
theorem dm_Dr_isWithin_0 : dl_Dr_isWithin_0.all (fun q => decide (decode cd_Dr_isWithin q.1 = .ok (q.2.1, q.2.2))) = true := by decide +kernel
theorem dc_Dr_isWithin_0 : decode cd_Dr_isWithin 0 = .ok (.aload_n 0, 1) := dq_at (q := (0, .aload_n 0, 1)) dm_Dr_isWithin_0 0 rfl
theorem dc_Dr_isWithin_1 : decode cd_Dr_isWithin 1 = .ok (.getfield 11, 3) := dq_at (q := (1, .getfield 11, 3)) dm_Dr_isWithin_0 1 rfl
theorem dc_Dr_isWithin_4 : decode cd_Dr_isWithin 4 = .ok (.iload_n 2, 1) := dq_at (q := (4, .iload_n 2, 1)) dm_Dr_isWithin_0 2 rfl
theorem dc_Dr_isWithin_5 : decode cd_Dr_isWithin 5 = .ok (.iaload, 1) := dq_at (q := (5, .iaload, 1)) dm_Dr_isWithin_0 3 rfl
theorem dc_Dr_isWithin_6 : decode cd_Dr_isWithin 6 = .ok (.iload_n 1, 1) := dq_at (q := (6, .iload_n 1, 1)) dm_Dr_isWithin_0 4 rfl
theorem dc_Dr_isWithin_7 : decode cd_Dr_isWithin 7 = .ok (.if_icmp .ge 17, 3) := dq_at (q := (7, .if_icmp .ge 17, 3)) dm_Dr_isWithin_0 5 rfl
theorem dc_Dr_isWithin_10 : decode cd_Dr_isWithin 10 = .ok (.iload_n 1, 1) := dq_at (q := (10, .iload_n 1, 1)) dm_Dr_isWithin_0 6 rfl
theorem dc_Dr_isWithin_11 : decode cd_Dr_isWithin 11 = .ok (.aload_n 0, 1) := dq_at (q := (11, .aload_n 0, 1)) dm_Dr_isWithin_0 7 rfl
theorem dc_Dr_isWithin_12 : decode cd_Dr_isWithin 12 = .ok (.getfield 15, 3) := dq_at (q := (12, .getfield 15, 3)) dm_Dr_isWithin_0 8 rfl
theorem dc_Dr_isWithin_15 : decode cd_Dr_isWithin 15 = .ok (.iload_n 2, 1) := dq_at (q := (15, .iload_n 2, 1)) dm_Dr_isWithin_0 9 rfl
theorem dc_Dr_isWithin_16 : decode cd_Dr_isWithin 16 = .ok (.iaload, 1) := dq_at (q := (16, .iaload, 1)) dm_Dr_isWithin_0 10 rfl
theorem dc_Dr_isWithin_17 : decode cd_Dr_isWithin 17 = .ok (.if_icmp .ge 7, 3) := dq_at (q := (17, .if_icmp .ge 7, 3)) dm_Dr_isWithin_0 11 rfl
theorem dc_Dr_isWithin_20 : decode cd_Dr_isWithin 20 = .ok (.iconst 1, 1) := dq_at (q := (20, .iconst 1, 1)) dm_Dr_isWithin_0 12 rfl
theorem dc_Dr_isWithin_21 : decode cd_Dr_isWithin 21 = .ok (.goto 4, 3) := dq_at (q := (21, .goto 4, 3)) dm_Dr_isWithin_0 13 rfl
theorem dc_Dr_isWithin_24 : decode cd_Dr_isWithin 24 = .ok (.iconst 0, 1) := dq_at (q := (24, .iconst 0, 1)) dm_Dr_isWithin_0 14 rfl
theorem dc_Dr_isWithin_25 : decode cd_Dr_isWithin 25 = .ok (.ireturn, 1) := dq_at (q := (25, .ireturn, 1)) dm_Dr_isWithin_0 15 rfl
def dl_Dr_unite_0 : List (Nat × Instr × Nat) := [(0, .iload_n 1, 1), (1, .iload_n 2, 1), (2, .invokestatic 51, 3), (5, .istore_n 3, 1), (6, .iload_n 1, 1), (7, .iload_n 2, 1), (8, .invokestatic 57, 3), (11, .istore 4, 2), (13, .iconst 0, 1), (14, .istore 5, 2), (16, .iload 5, 2), (18, .aload_n 0, 1), (19, .getfield 40, 3), (22, .if_icmp .ge 29, 3), (25, .aload_n 0, 1), (26, .getfield 31, 3), (29, .iload 5, 2), (31, .iaload, 1), (32, .iload 4, 2), (34, .if_icmp .ne 11, 3), (37, .aload_n 0, 1), (38, .getfield 31, 3), (41, .iload 5, 2), (43, .iload_n 3, 1), (44, .iastore, 1), (45, .iinc 5 1, 3), (48, .goto (-32), 3), (51, .return_, 1)]
theorem dm_Dr_unite_0 : dl_Dr_unite_0.all (fun q => decide (decode cd_Dr_unite q.1 = .ok (q.2.1, q.2.2))) = true := by decide +kernel
theorem dc_Dr_unite_0 : decode cd_Dr_unite 0 = .ok (.iload_n 1, 1) := dq_at (q := (0, .iload_n 1, 1)) dm_Dr_unite_0 0 rfl
theorem dc_Dr_unite_1 : decode cd_Dr_unite 1 = .ok (.iload_n 2, 1) := dq_at (q := (1, .iload_n 2, 1)) dm_Dr_unite_0 1 rfl
theorem dc_Dr_unite_2 : decode cd_Dr_unite 2 = .ok (.invokestatic 51, 3) := dq_at (q := (2, .invokestatic 51, 3)) dm_Dr_unite_0 2 rfl
theorem dc_Dr_unite_5 : decode cd_Dr_unite 5 = .ok (.istore_n 3, 1) := dq_at (q := (5, .istore_n 3, 1)) dm_Dr_unite_0 3 rfl
theorem dc_Dr_unite_6 : decode cd_Dr_unite 6 = .ok (.iload_n 1, 1) := dq_at (q := (6, .iload_n 1, 1)) dm_Dr_unite_0 4 rfl
theorem dc_Dr_unite_7 : decode cd_Dr_unite 7 = .ok (.iload_n 2, 1) := dq_at (q := (7, .iload_n 2, 1)) dm_Dr_unite_0 5 rfl
theorem dc_Dr_unite_8 : decode cd_Dr_unite 8 = .ok (.invokestatic 57, 3) := dq_at (q := (8, .invokestatic 57, 3)) dm_Dr_unite_0 6 rfl
theorem dc_Dr_unite_11 : decode cd_Dr_unite 11 = .ok (.istore 4, 2) := dq_at (q := (11, .istore 4, 2)) dm_Dr_unite_0 7 rfl
theorem dc_Dr_unite_13 : decode cd_Dr_unite 13 = .ok (.iconst 0, 1) := dq_at (q := (13, .iconst 0, 1)) dm_Dr_unite_0 8 rfl
theorem dc_Dr_unite_14 : decode cd_Dr_unite 14 = .ok (.istore 5, 2) := dq_at (q := (14, .istore 5, 2)) dm_Dr_unite_0 9 rfl
theorem dc_Dr_unite_16 : decode cd_Dr_unite 16 = .ok (.iload 5, 2) := dq_at (q := (16, .iload 5, 2)) dm_Dr_unite_0 10 rfl
theorem dc_Dr_unite_18 : decode cd_Dr_unite 18 = .ok (.aload_n 0, 1) := dq_at (q := (18, .aload_n 0, 1)) dm_Dr_unite_0 11 rfl
theorem dc_Dr_unite_19 : decode cd_Dr_unite 19 = .ok (.getfield 40, 3) := dq_at (q := (19, .getfield 40, 3)) dm_Dr_unite_0 12 rfl
theorem dc_Dr_unite_22 : decode cd_Dr_unite 22 = .ok (.if_icmp .ge 29, 3) := dq_at (q := (22, .if_icmp .ge 29, 3)) dm_Dr_unite_0 13 rfl
theorem dc_Dr_unite_25 : decode cd_Dr_unite 25 = .ok (.aload_n 0, 1) := dq_at (q := (25, .aload_n 0, 1)) dm_Dr_unite_0 14 rfl
theorem dc_Dr_unite_26 : decode cd_Dr_unite 26 = .ok (.getfield 31, 3) := dq_at (q := (26, .getfield 31, 3)) dm_Dr_unite_0 15 rfl
theorem dc_Dr_unite_29 : decode cd_Dr_unite 29 = .ok (.iload 5, 2) := dq_at (q := (29, .iload 5, 2)) dm_Dr_unite_0 16 rfl
theorem dc_Dr_unite_31 : decode cd_Dr_unite 31 = .ok (.iaload, 1) := dq_at (q := (31, .iaload, 1)) dm_Dr_unite_0 17 rfl
theorem dc_Dr_unite_32 : decode cd_Dr_unite 32 = .ok (.iload 4, 2) := dq_at (q := (32, .iload 4, 2)) dm_Dr_unite_0 18 rfl
theorem dc_Dr_unite_34 : decode cd_Dr_unite 34 = .ok (.if_icmp .ne 11, 3) := dq_at (q := (34, .if_icmp .ne 11, 3)) dm_Dr_unite_0 19 rfl
theorem dc_Dr_unite_37 : decode cd_Dr_unite 37 = .ok (.aload_n 0, 1) := dq_at (q := (37, .aload_n 0, 1)) dm_Dr_unite_0 20 rfl
theorem dc_Dr_unite_38 : decode cd_Dr_unite 38 = .ok (.getfield 31, 3) := dq_at (q := (38, .getfield 31, 3)) dm_Dr_unite_0 21 rfl
theorem dc_Dr_unite_41 : decode cd_Dr_unite 41 = .ok (.iload 5, 2) := dq_at (q := (41, .iload 5, 2)) dm_Dr_unite_0 22 rfl
theorem dc_Dr_unite_43 : decode cd_Dr_unite 43 = .ok (.iload_n 3, 1) := dq_at (q := (43, .iload_n 3, 1)) dm_Dr_unite_0 23 rfl
theorem dc_Dr_unite_44 : decode cd_Dr_unite 44 = .ok (.iastore, 1) := dq_at (q := (44, .iastore, 1)) dm_Dr_unite_0 24 rfl
theorem dc_Dr_unite_45 : decode cd_Dr_unite 45 = .ok (.iinc 5 1, 3) := dq_at (q := (45, .iinc 5 1, 3)) dm_Dr_unite_0 25 rfl
theorem dc_Dr_unite_48 : decode cd_Dr_unite 48 = .ok (.goto (-32), 3) := dq_at (q := (48, .goto (-32), 3)) dm_Dr_unite_0 26 rfl
theorem dc_Dr_unite_51 : decode cd_Dr_unite 51 = .ok (.return_, 1) := dq_at (q := (51, .return_, 1)) dm_Dr_unite_0 27 rfl
def dl_Dr_isOriented_0 : List (Nat × Instr × Nat) := [(0, .aload_n 0, 1), (1, .getfield 11, 3), (4, .iload_n 1, 1), (5, .iaload, 1), (6, .aload_n 0, 1), (7, .getfield 15, 3), (10, .iload_n 1, 1), (11, .iaload, 1), (12, .iadd, 1), (13, .iconst 2, 1), (14, .irem, 1), (15, .ifCond .ne 7, 3), (18, .iconst 1, 1), (19, .goto 4, 3), (22, .iconst 0, 1), (23, .ireturn, 1)]
theorem dm_Dr_isOriented_0 : dl_Dr_isOriented_0.all (fun q => decide (decode cd_Dr_isOriented q.1 = .ok (q.2.1, q.2.2))) = true := by decide +kernel
theorem dc_Dr_isOriented_0 : decode cd_Dr_isOriented 0 = .ok (.aload_n 0, 1) := dq_at (q := (0, .aload_n 0, 1)) dm_Dr_isOriented_0 0 rfl
theorem dc_Dr_isOriented_1 : decode cd_Dr_isOriented 1 = .ok (.getfield 11, 3) := dq_at (q := (1, .getfield 11, 3)) dm_Dr_isOriented_0 1 rfl
theorem dc_Dr_isOriented_4 : decode cd_Dr_isOriented 4 = .ok (.iload_n 1, 1) := dq_at (q := (4, .iload_n 1, 1)) dm_Dr_isOriented_0 2 rfl
theorem dc_Dr_isOriented_5 : decode cd_Dr_isOriented 5 = .ok (.iaload, 1) := dq_at (q := (5, .iaload, 1)) dm_Dr_isOriented_0 3 rfl
theorem dc_Dr_isOriented_6 : decode cd_Dr_isOriented 6 = .ok (.aload_n 0, 1) := dq_at (q := (6, .aload_n 0, 1)) dm_Dr_isOriented_0 4 rfl
theorem dc_Dr_isOriented_7 : decode cd_Dr_isOriented 7 = .ok (.getfield 15, 3) := dq_at (q := (7, .getfield 15, 3)) dm_Dr_isOriented_0 5 rfl
theorem dc_Dr_isOriented_10 : decode cd_Dr_isOriented 10 = .ok (.iload_n 1, 1) := dq_at (q := (10, .iload_n 1, 1)) dm_Dr_isOriented_0 6 rfl
theorem dc_Dr_isOriented_11 : decode cd_Dr_isOriented 11 = .ok (.iaload, 1) := dq_at (q := (11, .iaload, 1)) dm_Dr_isOriented_0 7 rfl
theorem dc_Dr_isOriented_12 : decode cd_Dr_isOriented 12 = .ok (.iadd, 1) := dq_at (q := (12, .iadd, 1)) dm_Dr_isOriented_0 8 rfl
theorem dc_Dr_isOriented_13 : decode cd_Dr_isOriented 13 = .ok (.iconst 2, 1) := dq_at (q := (13, .iconst 2, 1)) dm_Dr_isOriented_0 9 rfl
theorem dc_Dr_isOriented_14 : decode cd_Dr_isOriented 14 = .ok (.irem, 1) := dq_at (q := (14, .irem, 1)) dm_Dr_isOriented_0 10 rfl
theorem dc_Dr_isOriented_15 : decode cd_Dr_isOriented 15 = .ok (.ifCond .ne 7, 3) := dq_at (q := (15, .ifCond .ne 7, 3)) dm_Dr_isOriented_0 11 rfl
theorem dc_Dr_isOriented_18 : decode cd_Dr_isOriented 18 = .ok (.iconst 1, 1) := dq_at (q := (18, .iconst 1, 1)) dm_Dr_isOriented_0 12 rfl
theorem dc_Dr_isOriented_19 : decode cd_Dr_isOriented 19 = .ok (.goto 4, 3) := dq_at (q := (19, .goto 4, 3)) dm_Dr_isOriented_0 13 rfl
theorem dc_Dr_isOriented_22 : decode cd_Dr_isOriented 22 = .ok (.iconst 0, 1) := dq_at (q := (22, .iconst 0, 1)) dm_Dr_isOriented_0 14 rfl
theorem dc_Dr_isOriented_23 : decode cd_Dr_isOriented 23 = .ok (.ireturn, 1) := dq_at (q := (23, .ireturn, 1)) dm_Dr_isOriented_0 15 rfl
def dl_Dr_isShort_0 : List (Nat × Instr × Nat) := [(0, .aload_n 0, 1), (1, .getfield 15, 3), (4, .iload_n 1, 1), (5, .iaload, 1), (6, .aload_n 0, 1), (7, .getfield 11, 3), (10, .iload_n 1, 1), (11, .iaload, 1), (12, .iconst 1, 1), (13, .iadd, 1), (14, .if_icmp .ne 18, 3), (17, .aload_n 0, 1), (18, .getfield 11, 3), (21, .iload_n 1, 1), (22, .iaload, 1), (23, .iconst 2, 1), (24, .irem, 1), (25, .ifCond .ne 7, 3), (28, .iconst 1, 1), (29, .goto 4, 3), (32, .iconst 0, 1), (33, .ireturn, 1)]
theorem dm_Dr_isShort_0 : dl_Dr_isShort_0.all (fun q => decide (decode cd_Dr_isShort q.1 = .ok (q.2.1, q.2.2))) = true := by decide +kernel
theorem dc_Dr_isShort_0 : decode cd_Dr_isShort 0 = .ok (.aload_n 0, 1) := dq_at (q := (0, .aload_n 0, 1)) dm_Dr_isShort_0 0 rfl
theorem dc_Dr_isShort_1 : decode cd_Dr_isShort 1 = .ok (.getfield 15, 3) := dq_at (q := (1, .getfield 15, 3)) dm_Dr_isShort_0 1 rfl
theorem dc_Dr_isShort_4 : decode cd_Dr_isShort 4 = .ok (.iload_n 1, 1) := dq_at (q := (4, .iload_n 1, 1)) dm_Dr_isShort_0 2 rfl
theorem dc_Dr_isShort_5 : decode cd_Dr_isShort 5 = .ok (.iaload, 1) := dq_at (q := (5, .iaload, 1)) dm_Dr_isShort_0 3 rfl
theorem dc_Dr_isShort_6 : decode cd_Dr_isShort 6 = .ok (.aload_n 0, 1) := dq_at (q := (6, .aload_n 0, 1)) dm_Dr_isShort_0 4 rfl
theorem dc_Dr_isShort_7 : decode cd_Dr_isShort 7 = .ok (.getfield 11, 3) := dq_at (q := (7, .getfield 11, 3)) dm_Dr_isShort_0 5 rfl
theorem dc_Dr_isShort_10 : decode cd_Dr_isShort 10 = .ok (.iload_n 1, 1) := dq_at (q := (10, .iload_n 1, 1)) dm_Dr_isShort_0 6 rfl
theorem dc_Dr_isShort_11 : decode cd_Dr_isShort 11 = .ok (.iaload, 1) := dq_at (q := (11, .iaload, 1)) dm_Dr_isShort_0 7 rfl
theorem dc_Dr_isShort_12 : decode cd_Dr_isShort 12 = .ok (.iconst 1, 1) := dq_at (q := (12, .iconst 1, 1)) dm_Dr_isShort_0 8 rfl
theorem dc_Dr_isShort_13 : decode cd_Dr_isShort 13 = .ok (.iadd, 1) := dq_at (q := (13, .iadd, 1)) dm_Dr_isShort_0 9 rfl
theorem dc_Dr_isShort_14 : decode cd_Dr_isShort 14 = .ok (.if_icmp .ne 18, 3) := dq_at (q := (14, .if_icmp .ne 18, 3)) dm_Dr_isShort_0 10 rfl
theorem dc_Dr_isShort_17 : decode cd_Dr_isShort 17 = .ok (.aload_n 0, 1) := dq_at (q := (17, .aload_n 0, 1)) dm_Dr_isShort_0 11 rfl
theorem dc_Dr_isShort_18 : decode cd_Dr_isShort 18 = .ok (.getfield 11, 3) := dq_at (q := (18, .getfield 11, 3)) dm_Dr_isShort_0 12 rfl
theorem dc_Dr_isShort_21 : decode cd_Dr_isShort 21 = .ok (.iload_n 1, 1) := dq_at (q := (21, .iload_n 1, 1)) dm_Dr_isShort_0 13 rfl
theorem dc_Dr_isShort_22 : decode cd_Dr_isShort 22 = .ok (.iaload, 1) := dq_at (q := (22, .iaload, 1)) dm_Dr_isShort_0 14 rfl
theorem dc_Dr_isShort_23 : decode cd_Dr_isShort 23 = .ok (.iconst 2, 1) := dq_at (q := (23, .iconst 2, 1)) dm_Dr_isShort_0 15 rfl
theorem dc_Dr_isShort_24 : decode cd_Dr_isShort 24 = .ok (.irem, 1) := dq_at (q := (24, .irem, 1)) dm_Dr_isShort_0 16 rfl
theorem dc_Dr_isShort_25 : decode cd_Dr_isShort 25 = .ok (.ifCond .ne 7, 3) := dq_at (q := (25, .ifCond .ne 7, 3)) dm_Dr_isShort_0 17 rfl
theorem dc_Dr_isShort_28 : decode cd_Dr_isShort 28 = .ok (.iconst 1, 1) := dq_at (q := (28, .iconst 1, 1)) dm_Dr_isShort_0 18 rfl
theorem dc_Dr_isShort_29 : decode cd_Dr_isShort 29 = .ok (.goto 4, 3) := dq_at (q := (29, .goto 4, 3)) dm_Dr_isShort_0 19 rfl
theorem dc_Dr_isShort_32 : decode cd_Dr_isShort 32 = .ok (.iconst 0, 1) := dq_at (q := (32, .iconst 0, 1)) dm_Dr_isShort_0 20 rfl
theorem dc_Dr_isShort_33 : decode cd_Dr_isShort 33 = .ok (.ireturn, 1) := dq_at (q := (33, .ireturn, 1)) dm_Dr_isShort_0 21 rfl
def dl_Dr_markBadParts_0 : List (Nat × Instr × Nat) := [(0, .iconst 0, 1), (1, .istore_n 1, 1), (2, .iload_n 1, 1), (3, .aload_n 0, 1), (4, .getfield 40, 3), (7, .if_icmp .ge 38, 3), (10, .aload_n 0, 1), (11, .getfield 34, 3), (14, .iload_n 1, 1), (15, .aload_n 0, 1), (16, .getfield 31, 3), (19, .iload_n 1, 1), (20, .iaload, 1), (21, .iload_n 1, 1), (22, .if_icmp .ne 15, 3), (25, .aload_n 0, 1), (26, .iload_n 1, 1), (27, .invokevirtual 76, 3), (30, .ifCond .ne 7, 3), (33, .iconst 1, 1), (34, .goto 4, 3), (37, .iconst 0, 1), (38, .bastore, 1), (39, .iinc 1 1, 3), (42, .goto (-40), 3), (45, .iconst 0, 1), (46, .istore_n 1, 1), (47, .iload_n 1, 1), (48, .aload_n 0, 1), (49, .getfield 40, 3), (52, .if_icmp .ge 29, 3), (55, .aload_n 0, 1), (56, .iload_n 1, 1), (57, .invokevirtual 80, 3), (60, .ifCond .eq 15, 3), (63, .aload_n 0, 1), (64, .getfield 34, 3), (67, .aload_n 0, 1), (68, .getfield 31, 3), (71, .iload_n 1, 1), (72, .iaload, 1), (73, .iconst 0, 1), (74, .bastore, 1), (75, .iinc 1 1, 3), (78, .goto (-31), 3), (81, .return_, 1)]
theorem dm_Dr_markBadParts_0 : dl_Dr_markBadParts_0.all (fun q => decide (decode cd_Dr_markBadParts q.1 = .ok (q.2.1, q.2.2))) = true := by decide +kernel
theorem dc_Dr_markBadParts_0 : decode cd_Dr_markBadParts 0 = .ok (.iconst 0, 1) := dq_at (q := (0, .iconst 0, 1)) dm_Dr_markBadParts_0 0 rfl
theorem dc_Dr_markBadParts_1 : decode cd_Dr_markBadParts 1 = .ok (.istore_n 1, 1) := dq_at (q := (1, .istore_n 1, 1)) dm_Dr_markBadParts_0 1 rfl
theorem dc_Dr_markBadParts_2 : decode cd_Dr_markBadParts 2 = .ok (.iload_n 1, 1) := dq_at (q := (2, .iload_n 1, 1)) dm_Dr_markBadParts_0 2 rfl
theorem dc_Dr_markBadParts_3 : decode cd_Dr_markBadParts 3 = .ok (.aload_n 0, 1) := dq_at (q := (3, .aload_n 0, 1)) dm_Dr_markBadParts_0 3 rfl
theorem dc_Dr_markBadParts_4 : decode cd_Dr_markBadParts 4 = .ok (.getfield 40, 3) := dq_at (q := (4, .getfield 40, 3)) dm_Dr_markBadParts_0 4 rfl
theorem dc_Dr_markBadParts_7 : decode cd_Dr_markBadParts 7 = .ok (.if_icmp .ge 38, 3) := dq_at (q := (7, .if_icmp .ge 38, 3)) dm_Dr_markBadParts_0 5 rfl
theorem dc_Dr_markBadParts_10 : decode cd_Dr_markBadParts 10 = .ok (.aload_n 0, 1) := dq_at (q := (10, .aload_n 0, 1)) dm_Dr_markBadParts_0 6 rfl
theorem dc_Dr_markBadParts_11 : decode cd_Dr_markBadParts 11 = .ok (.getfield 34, 3) := dq_at (q := (11, .getfield 34, 3)) dm_Dr_markBadParts_0 7 rfl
theorem dc_Dr_markBadParts_14 : decode cd_Dr_markBadParts 14 = .ok (.iload_n 1, 1) := dq_at (q := (14, .iload_n 1, 1)) dm_Dr_markBadParts_0 8 rfl
theorem dc_Dr_markBadParts_15 : decode cd_Dr_markBadParts 15 = .ok (.aload_n 0, 1) := dq_at (q := (15, .aload_n 0, 1)) dm_Dr_markBadParts_0 9 rfl
theorem dc_Dr_markBadParts_16 : decode cd_Dr_markBadParts 16 = .ok (.getfield 31, 3) := dq_at (q := (16, .getfield 31, 3)) dm_Dr_markBadParts_0 10 rfl
theorem dc_Dr_markBadParts_19 : decode cd_Dr_markBadParts 19 = .ok (.iload_n 1, 1) := dq_at (q := (19, .iload_n 1, 1)) dm_Dr_markBadParts_0 11 rfl
theorem dc_Dr_markBadParts_20 : decode cd_Dr_markBadParts 20 = .ok (.iaload, 1) := dq_at (q := (20, .iaload, 1)) dm_Dr_markBadParts_0 12 rfl
theorem dc_Dr_markBadParts_21 : decode cd_Dr_markBadParts 21 = .ok (.iload_n 1, 1) := dq_at (q := (21, .iload_n 1, 1)) dm_Dr_markBadParts_0 13 rfl
theorem dc_Dr_markBadParts_22 : decode cd_Dr_markBadParts 22 = .ok (.if_icmp .ne 15, 3) := dq_at (q := (22, .if_icmp .ne 15, 3)) dm_Dr_markBadParts_0 14 rfl
theorem dc_Dr_markBadParts_25 : decode cd_Dr_markBadParts 25 = .ok (.aload_n 0, 1) := dq_at (q := (25, .aload_n 0, 1)) dm_Dr_markBadParts_0 15 rfl
theorem dc_Dr_markBadParts_26 : decode cd_Dr_markBadParts 26 = .ok (.iload_n 1, 1) := dq_at (q := (26, .iload_n 1, 1)) dm_Dr_markBadParts_0 16 rfl
theorem dc_Dr_markBadParts_27 : decode cd_Dr_markBadParts 27 = .ok (.invokevirtual 76, 3) := dq_at (q := (27, .invokevirtual 76, 3)) dm_Dr_markBadParts_0 17 rfl
theorem dc_Dr_markBadParts_30 : decode cd_Dr_markBadParts 30 = .ok (.ifCond .ne 7, 3) := dq_at (q := (30, .ifCond .ne 7, 3)) dm_Dr_markBadParts_0 18 rfl
theorem dc_Dr_markBadParts_33 : decode cd_Dr_markBadParts 33 = .ok (.iconst 1, 1) := dq_at (q := (33, .iconst 1, 1)) dm_Dr_markBadParts_0 19 rfl
theorem dc_Dr_markBadParts_34 : decode cd_Dr_markBadParts 34 = .ok (.goto 4, 3) := dq_at (q := (34, .goto 4, 3)) dm_Dr_markBadParts_0 20 rfl
theorem dc_Dr_markBadParts_37 : decode cd_Dr_markBadParts 37 = .ok (.iconst 0, 1) := dq_at (q := (37, .iconst 0, 1)) dm_Dr_markBadParts_0 21 rfl
theorem dc_Dr_markBadParts_38 : decode cd_Dr_markBadParts 38 = .ok (.bastore, 1) := dq_at (q := (38, .bastore, 1)) dm_Dr_markBadParts_0 22 rfl
theorem dc_Dr_markBadParts_39 : decode cd_Dr_markBadParts 39 = .ok (.iinc 1 1, 3) := dq_at (q := (39, .iinc 1 1, 3)) dm_Dr_markBadParts_0 23 rfl
theorem dc_Dr_markBadParts_42 : decode cd_Dr_markBadParts 42 = .ok (.goto (-40), 3) := dq_at (q := (42, .goto (-40), 3)) dm_Dr_markBadParts_0 24 rfl
theorem dc_Dr_markBadParts_45 : decode cd_Dr_markBadParts 45 = .ok (.iconst 0, 1) := dq_at (q := (45, .iconst 0, 1)) dm_Dr_markBadParts_0 25 rfl
theorem dc_Dr_markBadParts_46 : decode cd_Dr_markBadParts 46 = .ok (.istore_n 1, 1) := dq_at (q := (46, .istore_n 1, 1)) dm_Dr_markBadParts_0 26 rfl
theorem dc_Dr_markBadParts_47 : decode cd_Dr_markBadParts 47 = .ok (.iload_n 1, 1) := dq_at (q := (47, .iload_n 1, 1)) dm_Dr_markBadParts_0 27 rfl
theorem dc_Dr_markBadParts_48 : decode cd_Dr_markBadParts 48 = .ok (.aload_n 0, 1) := dq_at (q := (48, .aload_n 0, 1)) dm_Dr_markBadParts_0 28 rfl
theorem dc_Dr_markBadParts_49 : decode cd_Dr_markBadParts 49 = .ok (.getfield 40, 3) := dq_at (q := (49, .getfield 40, 3)) dm_Dr_markBadParts_0 29 rfl
theorem dc_Dr_markBadParts_52 : decode cd_Dr_markBadParts 52 = .ok (.if_icmp .ge 29, 3) := dq_at (q := (52, .if_icmp .ge 29, 3)) dm_Dr_markBadParts_0 30 rfl
theorem dc_Dr_markBadParts_55 : decode cd_Dr_markBadParts 55 = .ok (.aload_n 0, 1) := dq_at (q := (55, .aload_n 0, 1)) dm_Dr_markBadParts_0 31 rfl
theorem dc_Dr_markBadParts_56 : decode cd_Dr_markBadParts 56 = .ok (.iload_n 1, 1) := dq_at (q := (56, .iload_n 1, 1)) dm_Dr_markBadParts_0 32 rfl
theorem dc_Dr_markBadParts_57 : decode cd_Dr_markBadParts 57 = .ok (.invokevirtual 80, 3) := dq_at (q := (57, .invokevirtual 80, 3)) dm_Dr_markBadParts_0 33 rfl
theorem dc_Dr_markBadParts_60 : decode cd_Dr_markBadParts 60 = .ok (.ifCond .eq 15, 3) := dq_at (q := (60, .ifCond .eq 15, 3)) dm_Dr_markBadParts_0 34 rfl
theorem dc_Dr_markBadParts_63 : decode cd_Dr_markBadParts 63 = .ok (.aload_n 0, 1) := dq_at (q := (63, .aload_n 0, 1)) dm_Dr_markBadParts_0 35 rfl
theorem dc_Dr_markBadParts_64 : decode cd_Dr_markBadParts 64 = .ok (.getfield 34, 3) := dq_at (q := (64, .getfield 34, 3)) dm_Dr_markBadParts_0 36 rfl
theorem dc_Dr_markBadParts_67 : decode cd_Dr_markBadParts 67 = .ok (.aload_n 0, 1) := dq_at (q := (67, .aload_n 0, 1)) dm_Dr_markBadParts_0 37 rfl
theorem dc_Dr_markBadParts_68 : decode cd_Dr_markBadParts 68 = .ok (.getfield 31, 3) := dq_at (q := (68, .getfield 31, 3)) dm_Dr_markBadParts_0 38 rfl
theorem dc_Dr_markBadParts_71 : decode cd_Dr_markBadParts 71 = .ok (.iload_n 1, 1) := dq_at (q := (71, .iload_n 1, 1)) dm_Dr_markBadParts_0 39 rfl
theorem dc_Dr_markBadParts_72 : decode cd_Dr_markBadParts 72 = .ok (.iaload, 1) := dq_at (q := (72, .iaload, 1)) dm_Dr_markBadParts_0 40 rfl
theorem dc_Dr_markBadParts_73 : decode cd_Dr_markBadParts 73 = .ok (.iconst 0, 1) := dq_at (q := (73, .iconst 0, 1)) dm_Dr_markBadParts_0 41 rfl
theorem dc_Dr_markBadParts_74 : decode cd_Dr_markBadParts 74 = .ok (.bastore, 1) := dq_at (q := (74, .bastore, 1)) dm_Dr_markBadParts_0 42 rfl
theorem dc_Dr_markBadParts_75 : decode cd_Dr_markBadParts 75 = .ok (.iinc 1 1, 3) := dq_at (q := (75, .iinc 1 1, 3)) dm_Dr_markBadParts_0 43 rfl
theorem dc_Dr_markBadParts_78 : decode cd_Dr_markBadParts 78 = .ok (.goto (-31), 3) := dq_at (q := (78, .goto (-31), 3)) dm_Dr_markBadParts_0 44 rfl
theorem dc_Dr_markBadParts_81 : decode cd_Dr_markBadParts 81 = .ok (.return_, 1) := dq_at (q := (81, .return_, 1)) dm_Dr_markBadParts_0 45 rfl
def dl_Dr_countCycles_0 : List (Nat × Instr × Nat) := [(0, .iconst 0, 1), (1, .istore_n 1, 1), (2, .iload_n 1, 1), (3, .aload_n 0, 1), (4, .getfield 44, 3), (7, .if_icmp .ge 16, 3), (10, .aload_n 0, 1), (11, .getfield 27, 3), (14, .iload_n 1, 1), (15, .iconst 0, 1), (16, .bastore, 1), (17, .iinc 1 1, 3), (20, .goto (-18), 3), (23, .iconst 0, 1), (24, .istore_n 1, 1), (25, .iconst 0, 1), (26, .istore_n 2, 1), (27, .iload_n 2, 1), (28, .aload_n 0, 1), (29, .getfield 44, 3), (32, .if_icmp .ge 26, 3), (35, .aload_n 0, 1), (36, .getfield 27, 3), (39, .iload_n 2, 1), (40, .baload, 1), (41, .ifCond .ne 11, 3), (44, .aload_n 0, 1), (45, .iload_n 2, 1), (46, .invokevirtual 83, 3), (49, .iinc 1 1, 3), (52, .iinc 2 1, 3), (55, .goto (-28), 3), (58, .iload_n 1, 1), (59, .ireturn, 1)]
theorem dm_Dr_countCycles_0 : dl_Dr_countCycles_0.all (fun q => decide (decode cd_Dr_countCycles q.1 = .ok (q.2.1, q.2.2))) = true := by decide +kernel
theorem dc_Dr_countCycles_0 : decode cd_Dr_countCycles 0 = .ok (.iconst 0, 1) := dq_at (q := (0, .iconst 0, 1)) dm_Dr_countCycles_0 0 rfl
theorem dc_Dr_countCycles_1 : decode cd_Dr_countCycles 1 = .ok (.istore_n 1, 1) := dq_at (q := (1, .istore_n 1, 1)) dm_Dr_countCycles_0 1 rfl
theorem dc_Dr_countCycles_2 : decode cd_Dr_countCycles 2 = .ok (.iload_n 1, 1) := dq_at (q := (2, .iload_n 1, 1)) dm_Dr_countCycles_0 2 rfl
theorem dc_Dr_countCycles_3 : decode cd_Dr_countCycles 3 = .ok (.aload_n 0, 1) := dq_at (q := (3, .aload_n 0, 1)) dm_Dr_countCycles_0 3 rfl
theorem dc_Dr_countCycles_4 : decode cd_Dr_countCycles 4 = .ok (.getfield 44, 3) := dq_at (q := (4, .getfield 44, 3)) dm_Dr_countCycles_0 4 rfl
theorem dc_Dr_countCycles_7 : decode cd_Dr_countCycles 7 = .ok (.if_icmp .ge 16, 3) := dq_at (q := (7, .if_icmp .ge 16, 3)) dm_Dr_countCycles_0 5 rfl
theorem dc_Dr_countCycles_10 : decode cd_Dr_countCycles 10 = .ok (.aload_n 0, 1) := dq_at (q := (10, .aload_n 0, 1)) dm_Dr_countCycles_0 6 rfl
theorem dc_Dr_countCycles_11 : decode cd_Dr_countCycles 11 = .ok (.getfield 27, 3) := dq_at (q := (11, .getfield 27, 3)) dm_Dr_countCycles_0 7 rfl
theorem dc_Dr_countCycles_14 : decode cd_Dr_countCycles 14 = .ok (.iload_n 1, 1) := dq_at (q := (14, .iload_n 1, 1)) dm_Dr_countCycles_0 8 rfl
theorem dc_Dr_countCycles_15 : decode cd_Dr_countCycles 15 = .ok (.iconst 0, 1) := dq_at (q := (15, .iconst 0, 1)) dm_Dr_countCycles_0 9 rfl
theorem dc_Dr_countCycles_16 : decode cd_Dr_countCycles 16 = .ok (.bastore, 1) := dq_at (q := (16, .bastore, 1)) dm_Dr_countCycles_0 10 rfl
theorem dc_Dr_countCycles_17 : decode cd_Dr_countCycles 17 = .ok (.iinc 1 1, 3) := dq_at (q := (17, .iinc 1 1, 3)) dm_Dr_countCycles_0 11 rfl
theorem dc_Dr_countCycles_20 : decode cd_Dr_countCycles 20 = .ok (.goto (-18), 3) := dq_at (q := (20, .goto (-18), 3)) dm_Dr_countCycles_0 12 rfl
theorem dc_Dr_countCycles_23 : decode cd_Dr_countCycles 23 = .ok (.iconst 0, 1) := dq_at (q := (23, .iconst 0, 1)) dm_Dr_countCycles_0 13 rfl
theorem dc_Dr_countCycles_24 : decode cd_Dr_countCycles 24 = .ok (.istore_n 1, 1) := dq_at (q := (24, .istore_n 1, 1)) dm_Dr_countCycles_0 14 rfl
theorem dc_Dr_countCycles_25 : decode cd_Dr_countCycles 25 = .ok (.iconst 0, 1) := dq_at (q := (25, .iconst 0, 1)) dm_Dr_countCycles_0 15 rfl
theorem dc_Dr_countCycles_26 : decode cd_Dr_countCycles 26 = .ok (.istore_n 2, 1) := dq_at (q := (26, .istore_n 2, 1)) dm_Dr_countCycles_0 16 rfl
theorem dc_Dr_countCycles_27 : decode cd_Dr_countCycles 27 = .ok (.iload_n 2, 1) := dq_at (q := (27, .iload_n 2, 1)) dm_Dr_countCycles_0 17 rfl
theorem dc_Dr_countCycles_28 : decode cd_Dr_countCycles 28 = .ok (.aload_n 0, 1) := dq_at (q := (28, .aload_n 0, 1)) dm_Dr_countCycles_0 18 rfl
theorem dc_Dr_countCycles_29 : decode cd_Dr_countCycles 29 = .ok (.getfield 44, 3) := dq_at (q := (29, .getfield 44, 3)) dm_Dr_countCycles_0 19 rfl
theorem dc_Dr_countCycles_32 : decode cd_Dr_countCycles 32 = .ok (.if_icmp .ge 26, 3) := dq_at (q := (32, .if_icmp .ge 26, 3)) dm_Dr_countCycles_0 20 rfl
theorem dc_Dr_countCycles_35 : decode cd_Dr_countCycles 35 = .ok (.aload_n 0, 1) := dq_at (q := (35, .aload_n 0, 1)) dm_Dr_countCycles_0 21 rfl
theorem dc_Dr_countCycles_36 : decode cd_Dr_countCycles 36 = .ok (.getfield 27, 3) := dq_at (q := (36, .getfield 27, 3)) dm_Dr_countCycles_0 22 rfl
theorem dc_Dr_countCycles_39 : decode cd_Dr_countCycles 39 = .ok (.iload_n 2, 1) := dq_at (q := (39, .iload_n 2, 1)) dm_Dr_countCycles_0 23 rfl
theorem dc_Dr_countCycles_40 : decode cd_Dr_countCycles 40 = .ok (.baload, 1) := dq_at (q := (40, .baload, 1)) dm_Dr_countCycles_0 24 rfl
theorem dc_Dr_countCycles_41 : decode cd_Dr_countCycles 41 = .ok (.ifCond .ne 11, 3) := dq_at (q := (41, .ifCond .ne 11, 3)) dm_Dr_countCycles_0 25 rfl
theorem dc_Dr_countCycles_44 : decode cd_Dr_countCycles 44 = .ok (.aload_n 0, 1) := dq_at (q := (44, .aload_n 0, 1)) dm_Dr_countCycles_0 26 rfl
theorem dc_Dr_countCycles_45 : decode cd_Dr_countCycles 45 = .ok (.iload_n 2, 1) := dq_at (q := (45, .iload_n 2, 1)) dm_Dr_countCycles_0 27 rfl
theorem dc_Dr_countCycles_46 : decode cd_Dr_countCycles 46 = .ok (.invokevirtual 83, 3) := dq_at (q := (46, .invokevirtual 83, 3)) dm_Dr_countCycles_0 28 rfl
theorem dc_Dr_countCycles_49 : decode cd_Dr_countCycles 49 = .ok (.iinc 1 1, 3) := dq_at (q := (49, .iinc 1 1, 3)) dm_Dr_countCycles_0 29 rfl
theorem dc_Dr_countCycles_52 : decode cd_Dr_countCycles 52 = .ok (.iinc 2 1, 3) := dq_at (q := (52, .iinc 2 1, 3)) dm_Dr_countCycles_0 30 rfl
theorem dc_Dr_countCycles_55 : decode cd_Dr_countCycles 55 = .ok (.goto (-28), 3) := dq_at (q := (55, .goto (-28), 3)) dm_Dr_countCycles_0 31 rfl
theorem dc_Dr_countCycles_58 : decode cd_Dr_countCycles 58 = .ok (.iload_n 1, 1) := dq_at (q := (58, .iload_n 1, 1)) dm_Dr_countCycles_0 32 rfl
theorem dc_Dr_countCycles_59 : decode cd_Dr_countCycles 59 = .ok (.ireturn, 1) := dq_at (q := (59, .ireturn, 1)) dm_Dr_countCycles_0 33 rfl
def dl_Dr_walkCycle_0 : List (Nat × Instr × Nat) := [(0, .iload_n 1, 1), (1, .istore_n 2, 1), (2, .iconst 0, 1), (3, .istore_n 3, 1), (4, .iload_n 3, 1), (5, .aload_n 0, 1), (6, .getfield 40, 3), (9, .if_icmp .ge 53, 3), (12, .aload_n 0, 1), (13, .getfield 27, 3), (16, .iload_n 2, 1), (17, .baload, 1), (18, .ifCond .ne 44, 3), (21, .iload_n 2, 1), (22, .iconst 1, 1), (23, .ixor, 1), (24, .istore 4, 2), (26, .aload_n 0, 1), (27, .getfield 27, 3), (30, .iload_n 2, 1), (31, .iconst 1, 1), (32, .bastore, 1), (33, .aload_n 0, 1), (34, .getfield 27, 3), (37, .iload 4, 2), (39, .iconst 1, 1), (40, .bastore, 1), (41, .aload_n 0, 1), (42, .getfield 24, 3), (45, .aload_n 0, 1), (46, .getfield 21, 3), (49, .iload 4, 2), (51, .iaload, 1), (52, .iconst 1, 1), (53, .ixor, 1), (54, .iaload, 1), (55, .istore_n 2, 1), (56, .iinc 3 1, 3), (59, .goto (-55), 3), (62, .return_, 1)]
theorem dm_Dr_walkCycle_0 : dl_Dr_walkCycle_0.all (fun q => decide (decode cd_Dr_walkCycle q.1 = .ok (q.2.1, q.2.2))) = true := by decide +kernel
theorem dc_Dr_walkCycle_0 : decode cd_Dr_walkCycle 0 = .ok (.iload_n 1, 1) := dq_at (q := (0, .iload_n 1, 1)) dm_Dr_walkCycle_0 0 rfl
theorem dc_Dr_walkCycle_1 : decode cd_Dr_walkCycle 1 = .ok (.istore_n 2, 1) := dq_at (q := (1, .istore_n 2, 1)) dm_Dr_walkCycle_0 1 rfl
theorem dc_Dr_walkCycle_2 : decode cd_Dr_walkCycle 2 = .ok (.iconst 0, 1) := dq_at (q := (2, .iconst 0, 1)) dm_Dr_walkCycle_0 2 rfl
theorem dc_Dr_walkCycle_3 : decode cd_Dr_walkCycle 3 = .ok (.istore_n 3, 1) := dq_at (q := (3, .istore_n 3, 1)) dm_Dr_walkCycle_0 3 rfl
theorem dc_Dr_walkCycle_4 : decode cd_Dr_walkCycle 4 = .ok (.iload_n 3, 1) := dq_at (q := (4, .iload_n 3, 1)) dm_Dr_walkCycle_0 4 rfl
theorem dc_Dr_walkCycle_5 : decode cd_Dr_walkCycle 5 = .ok (.aload_n 0, 1) := dq_at (q := (5, .aload_n 0, 1)) dm_Dr_walkCycle_0 5 rfl
theorem dc_Dr_walkCycle_6 : decode cd_Dr_walkCycle 6 = .ok (.getfield 40, 3) := dq_at (q := (6, .getfield 40, 3)) dm_Dr_walkCycle_0 6 rfl
theorem dc_Dr_walkCycle_9 : decode cd_Dr_walkCycle 9 = .ok (.if_icmp .ge 53, 3) := dq_at (q := (9, .if_icmp .ge 53, 3)) dm_Dr_walkCycle_0 7 rfl
theorem dc_Dr_walkCycle_12 : decode cd_Dr_walkCycle 12 = .ok (.aload_n 0, 1) := dq_at (q := (12, .aload_n 0, 1)) dm_Dr_walkCycle_0 8 rfl
theorem dc_Dr_walkCycle_13 : decode cd_Dr_walkCycle 13 = .ok (.getfield 27, 3) := dq_at (q := (13, .getfield 27, 3)) dm_Dr_walkCycle_0 9 rfl
theorem dc_Dr_walkCycle_16 : decode cd_Dr_walkCycle 16 = .ok (.iload_n 2, 1) := dq_at (q := (16, .iload_n 2, 1)) dm_Dr_walkCycle_0 10 rfl
theorem dc_Dr_walkCycle_17 : decode cd_Dr_walkCycle 17 = .ok (.baload, 1) := dq_at (q := (17, .baload, 1)) dm_Dr_walkCycle_0 11 rfl
theorem dc_Dr_walkCycle_18 : decode cd_Dr_walkCycle 18 = .ok (.ifCond .ne 44, 3) := dq_at (q := (18, .ifCond .ne 44, 3)) dm_Dr_walkCycle_0 12 rfl
theorem dc_Dr_walkCycle_21 : decode cd_Dr_walkCycle 21 = .ok (.iload_n 2, 1) := dq_at (q := (21, .iload_n 2, 1)) dm_Dr_walkCycle_0 13 rfl
theorem dc_Dr_walkCycle_22 : decode cd_Dr_walkCycle 22 = .ok (.iconst 1, 1) := dq_at (q := (22, .iconst 1, 1)) dm_Dr_walkCycle_0 14 rfl
theorem dc_Dr_walkCycle_23 : decode cd_Dr_walkCycle 23 = .ok (.ixor, 1) := dq_at (q := (23, .ixor, 1)) dm_Dr_walkCycle_0 15 rfl
theorem dc_Dr_walkCycle_24 : decode cd_Dr_walkCycle 24 = .ok (.istore 4, 2) := dq_at (q := (24, .istore 4, 2)) dm_Dr_walkCycle_0 16 rfl
theorem dc_Dr_walkCycle_26 : decode cd_Dr_walkCycle 26 = .ok (.aload_n 0, 1) := dq_at (q := (26, .aload_n 0, 1)) dm_Dr_walkCycle_0 17 rfl
theorem dc_Dr_walkCycle_27 : decode cd_Dr_walkCycle 27 = .ok (.getfield 27, 3) := dq_at (q := (27, .getfield 27, 3)) dm_Dr_walkCycle_0 18 rfl
theorem dc_Dr_walkCycle_30 : decode cd_Dr_walkCycle 30 = .ok (.iload_n 2, 1) := dq_at (q := (30, .iload_n 2, 1)) dm_Dr_walkCycle_0 19 rfl
theorem dc_Dr_walkCycle_31 : decode cd_Dr_walkCycle 31 = .ok (.iconst 1, 1) := dq_at (q := (31, .iconst 1, 1)) dm_Dr_walkCycle_0 20 rfl
theorem dc_Dr_walkCycle_32 : decode cd_Dr_walkCycle 32 = .ok (.bastore, 1) := dq_at (q := (32, .bastore, 1)) dm_Dr_walkCycle_0 21 rfl
theorem dc_Dr_walkCycle_33 : decode cd_Dr_walkCycle 33 = .ok (.aload_n 0, 1) := dq_at (q := (33, .aload_n 0, 1)) dm_Dr_walkCycle_0 22 rfl
theorem dc_Dr_walkCycle_34 : decode cd_Dr_walkCycle 34 = .ok (.getfield 27, 3) := dq_at (q := (34, .getfield 27, 3)) dm_Dr_walkCycle_0 23 rfl
theorem dc_Dr_walkCycle_37 : decode cd_Dr_walkCycle 37 = .ok (.iload 4, 2) := dq_at (q := (37, .iload 4, 2)) dm_Dr_walkCycle_0 24 rfl
theorem dc_Dr_walkCycle_39 : decode cd_Dr_walkCycle 39 = .ok (.iconst 1, 1) := dq_at (q := (39, .iconst 1, 1)) dm_Dr_walkCycle_0 25 rfl
theorem dc_Dr_walkCycle_40 : decode cd_Dr_walkCycle 40 = .ok (.bastore, 1) := dq_at (q := (40, .bastore, 1)) dm_Dr_walkCycle_0 26 rfl
theorem dc_Dr_walkCycle_41 : decode cd_Dr_walkCycle 41 = .ok (.aload_n 0, 1) := dq_at (q := (41, .aload_n 0, 1)) dm_Dr_walkCycle_0 27 rfl
theorem dc_Dr_walkCycle_42 : decode cd_Dr_walkCycle 42 = .ok (.getfield 24, 3) := dq_at (q := (42, .getfield 24, 3)) dm_Dr_walkCycle_0 28 rfl
theorem dc_Dr_walkCycle_45 : decode cd_Dr_walkCycle 45 = .ok (.aload_n 0, 1) := dq_at (q := (45, .aload_n 0, 1)) dm_Dr_walkCycle_0 29 rfl
theorem dc_Dr_walkCycle_46 : decode cd_Dr_walkCycle 46 = .ok (.getfield 21, 3) := dq_at (q := (46, .getfield 21, 3)) dm_Dr_walkCycle_0 30 rfl
theorem dc_Dr_walkCycle_49 : decode cd_Dr_walkCycle 49 = .ok (.iload 4, 2) := dq_at (q := (49, .iload 4, 2)) dm_Dr_walkCycle_0 31 rfl
theorem dc_Dr_walkCycle_51 : decode cd_Dr_walkCycle 51 = .ok (.iaload, 1) := dq_at (q := (51, .iaload, 1)) dm_Dr_walkCycle_0 32 rfl
theorem dc_Dr_walkCycle_52 : decode cd_Dr_walkCycle 52 = .ok (.iconst 1, 1) := dq_at (q := (52, .iconst 1, 1)) dm_Dr_walkCycle_0 33 rfl
theorem dc_Dr_walkCycle_53 : decode cd_Dr_walkCycle 53 = .ok (.ixor, 1) := dq_at (q := (53, .ixor, 1)) dm_Dr_walkCycle_0 34 rfl
theorem dc_Dr_walkCycle_54 : decode cd_Dr_walkCycle 54 = .ok (.iaload, 1) := dq_at (q := (54, .iaload, 1)) dm_Dr_walkCycle_0 35 rfl
theorem dc_Dr_walkCycle_55 : decode cd_Dr_walkCycle 55 = .ok (.istore_n 2, 1) := dq_at (q := (55, .istore_n 2, 1)) dm_Dr_walkCycle_0 36 rfl
theorem dc_Dr_walkCycle_56 : decode cd_Dr_walkCycle 56 = .ok (.iinc 3 1, 3) := dq_at (q := (56, .iinc 3 1, 3)) dm_Dr_walkCycle_0 37 rfl
theorem dc_Dr_walkCycle_59 : decode cd_Dr_walkCycle 59 = .ok (.goto (-55), 3) := dq_at (q := (59, .goto (-55), 3)) dm_Dr_walkCycle_0 38 rfl
theorem dc_Dr_walkCycle_62 : decode cd_Dr_walkCycle 62 = .ok (.return_, 1) := dq_at (q := (62, .return_, 1)) dm_Dr_walkCycle_0 39 rfl
def dl_Dr_countParts_0 : List (Nat × Instr × Nat) := [(0, .iconst 0, 1), (1, .istore_n 1, 1), (2, .iconst 0, 1), (3, .istore_n 2, 1), (4, .iload_n 2, 1), (5, .aload_n 0, 1), (6, .getfield 40, 3), (9, .if_icmp .ge 22, 3), (12, .aload_n 0, 1), (13, .getfield 31, 3), (16, .iload_n 2, 1), (17, .iaload, 1), (18, .iload_n 2, 1), (19, .if_icmp .ne 6, 3), (22, .iinc 1 1, 3), (25, .iinc 2 1, 3), (28, .goto (-24), 3), (31, .iload_n 1, 1), (32, .ireturn, 1)]
theorem dm_Dr_countParts_0 : dl_Dr_countParts_0.all (fun q => decide (decode cd_Dr_countParts q.1 = .ok (q.2.1, q.2.2))) = true := by decide +kernel
theorem dc_Dr_countParts_0 : decode cd_Dr_countParts 0 = .ok (.iconst 0, 1) := dq_at (q := (0, .iconst 0, 1)) dm_Dr_countParts_0 0 rfl
theorem dc_Dr_countParts_1 : decode cd_Dr_countParts 1 = .ok (.istore_n 1, 1) := dq_at (q := (1, .istore_n 1, 1)) dm_Dr_countParts_0 1 rfl
theorem dc_Dr_countParts_2 : decode cd_Dr_countParts 2 = .ok (.iconst 0, 1) := dq_at (q := (2, .iconst 0, 1)) dm_Dr_countParts_0 2 rfl
theorem dc_Dr_countParts_3 : decode cd_Dr_countParts 3 = .ok (.istore_n 2, 1) := dq_at (q := (3, .istore_n 2, 1)) dm_Dr_countParts_0 3 rfl
theorem dc_Dr_countParts_4 : decode cd_Dr_countParts 4 = .ok (.iload_n 2, 1) := dq_at (q := (4, .iload_n 2, 1)) dm_Dr_countParts_0 4 rfl
theorem dc_Dr_countParts_5 : decode cd_Dr_countParts 5 = .ok (.aload_n 0, 1) := dq_at (q := (5, .aload_n 0, 1)) dm_Dr_countParts_0 5 rfl
theorem dc_Dr_countParts_6 : decode cd_Dr_countParts 6 = .ok (.getfield 40, 3) := dq_at (q := (6, .getfield 40, 3)) dm_Dr_countParts_0 6 rfl
theorem dc_Dr_countParts_9 : decode cd_Dr_countParts 9 = .ok (.if_icmp .ge 22, 3) := dq_at (q := (9, .if_icmp .ge 22, 3)) dm_Dr_countParts_0 7 rfl
theorem dc_Dr_countParts_12 : decode cd_Dr_countParts 12 = .ok (.aload_n 0, 1) := dq_at (q := (12, .aload_n 0, 1)) dm_Dr_countParts_0 8 rfl
theorem dc_Dr_countParts_13 : decode cd_Dr_countParts 13 = .ok (.getfield 31, 3) := dq_at (q := (13, .getfield 31, 3)) dm_Dr_countParts_0 9 rfl
theorem dc_Dr_countParts_16 : decode cd_Dr_countParts 16 = .ok (.iload_n 2, 1) := dq_at (q := (16, .iload_n 2, 1)) dm_Dr_countParts_0 10 rfl
theorem dc_Dr_countParts_17 : decode cd_Dr_countParts 17 = .ok (.iaload, 1) := dq_at (q := (17, .iaload, 1)) dm_Dr_countParts_0 11 rfl
theorem dc_Dr_countParts_18 : decode cd_Dr_countParts 18 = .ok (.iload_n 2, 1) := dq_at (q := (18, .iload_n 2, 1)) dm_Dr_countParts_0 12 rfl
theorem dc_Dr_countParts_19 : decode cd_Dr_countParts 19 = .ok (.if_icmp .ne 6, 3) := dq_at (q := (19, .if_icmp .ne 6, 3)) dm_Dr_countParts_0 13 rfl
theorem dc_Dr_countParts_22 : decode cd_Dr_countParts 22 = .ok (.iinc 1 1, 3) := dq_at (q := (22, .iinc 1 1, 3)) dm_Dr_countParts_0 14 rfl
theorem dc_Dr_countParts_25 : decode cd_Dr_countParts 25 = .ok (.iinc 2 1, 3) := dq_at (q := (25, .iinc 2 1, 3)) dm_Dr_countParts_0 15 rfl
theorem dc_Dr_countParts_28 : decode cd_Dr_countParts 28 = .ok (.goto (-24), 3) := dq_at (q := (28, .goto (-24), 3)) dm_Dr_countParts_0 16 rfl
theorem dc_Dr_countParts_31 : decode cd_Dr_countParts 31 = .ok (.iload_n 1, 1) := dq_at (q := (31, .iload_n 1, 1)) dm_Dr_countParts_0 17 rfl
theorem dc_Dr_countParts_32 : decode cd_Dr_countParts 32 = .ok (.ireturn, 1) := dq_at (q := (32, .ireturn, 1)) dm_Dr_countParts_0 18 rfl
def dl_Dr_countBadParts_0 : List (Nat × Instr × Nat) := [(0, .iconst 0, 1), (1, .istore_n 1, 1), (2, .iconst 0, 1), (3, .istore_n 2, 1), (4, .iload_n 2, 1), (5, .aload_n 0, 1), (6, .getfield 40, 3), (9, .if_icmp .ge 21, 3), (12, .aload_n 0, 1), (13, .getfield 34, 3), (16, .iload_n 2, 1), (17, .baload, 1), (18, .ifCond .eq 6, 3), (21, .iinc 1 1, 3), (24, .iinc 2 1, 3), (27, .goto (-23), 3), (30, .iload_n 1, 1), (31, .ireturn, 1)]
theorem dm_Dr_countBadParts_0 : dl_Dr_countBadParts_0.all (fun q => decide (decode cd_Dr_countBadParts q.1 = .ok (q.2.1, q.2.2))) = true := by decide +kernel
theorem dc_Dr_countBadParts_0 : decode cd_Dr_countBadParts 0 = .ok (.iconst 0, 1) := dq_at (q := (0, .iconst 0, 1)) dm_Dr_countBadParts_0 0 rfl
theorem dc_Dr_countBadParts_1 : decode cd_Dr_countBadParts 1 = .ok (.istore_n 1, 1) := dq_at (q := (1, .istore_n 1, 1)) dm_Dr_countBadParts_0 1 rfl
theorem dc_Dr_countBadParts_2 : decode cd_Dr_countBadParts 2 = .ok (.iconst 0, 1) := dq_at (q := (2, .iconst 0, 1)) dm_Dr_countBadParts_0 2 rfl
theorem dc_Dr_countBadParts_3 : decode cd_Dr_countBadParts 3 = .ok (.istore_n 2, 1) := dq_at (q := (3, .istore_n 2, 1)) dm_Dr_countBadParts_0 3 rfl
theorem dc_Dr_countBadParts_4 : decode cd_Dr_countBadParts 4 = .ok (.iload_n 2, 1) := dq_at (q := (4, .iload_n 2, 1)) dm_Dr_countBadParts_0 4 rfl
theorem dc_Dr_countBadParts_5 : decode cd_Dr_countBadParts 5 = .ok (.aload_n 0, 1) := dq_at (q := (5, .aload_n 0, 1)) dm_Dr_countBadParts_0 5 rfl
theorem dc_Dr_countBadParts_6 : decode cd_Dr_countBadParts 6 = .ok (.getfield 40, 3) := dq_at (q := (6, .getfield 40, 3)) dm_Dr_countBadParts_0 6 rfl
theorem dc_Dr_countBadParts_9 : decode cd_Dr_countBadParts 9 = .ok (.if_icmp .ge 21, 3) := dq_at (q := (9, .if_icmp .ge 21, 3)) dm_Dr_countBadParts_0 7 rfl
theorem dc_Dr_countBadParts_12 : decode cd_Dr_countBadParts 12 = .ok (.aload_n 0, 1) := dq_at (q := (12, .aload_n 0, 1)) dm_Dr_countBadParts_0 8 rfl
theorem dc_Dr_countBadParts_13 : decode cd_Dr_countBadParts 13 = .ok (.getfield 34, 3) := dq_at (q := (13, .getfield 34, 3)) dm_Dr_countBadParts_0 9 rfl
theorem dc_Dr_countBadParts_16 : decode cd_Dr_countBadParts 16 = .ok (.iload_n 2, 1) := dq_at (q := (16, .iload_n 2, 1)) dm_Dr_countBadParts_0 10 rfl
theorem dc_Dr_countBadParts_17 : decode cd_Dr_countBadParts 17 = .ok (.baload, 1) := dq_at (q := (17, .baload, 1)) dm_Dr_countBadParts_0 11 rfl
theorem dc_Dr_countBadParts_18 : decode cd_Dr_countBadParts 18 = .ok (.ifCond .eq 6, 3) := dq_at (q := (18, .ifCond .eq 6, 3)) dm_Dr_countBadParts_0 12 rfl
theorem dc_Dr_countBadParts_21 : decode cd_Dr_countBadParts 21 = .ok (.iinc 1 1, 3) := dq_at (q := (21, .iinc 1 1, 3)) dm_Dr_countBadParts_0 13 rfl
theorem dc_Dr_countBadParts_24 : decode cd_Dr_countBadParts 24 = .ok (.iinc 2 1, 3) := dq_at (q := (24, .iinc 2 1, 3)) dm_Dr_countBadParts_0 14 rfl
theorem dc_Dr_countBadParts_27 : decode cd_Dr_countBadParts 27 = .ok (.goto (-23), 3) := dq_at (q := (27, .goto (-23), 3)) dm_Dr_countBadParts_0 15 rfl
theorem dc_Dr_countBadParts_30 : decode cd_Dr_countBadParts 30 = .ok (.iload_n 1, 1) := dq_at (q := (30, .iload_n 1, 1)) dm_Dr_countBadParts_0 16 rfl
theorem dc_Dr_countBadParts_31 : decode cd_Dr_countBadParts 31 = .ok (.ireturn, 1) := dq_at (q := (31, .ireturn, 1)) dm_Dr_countBadParts_0 17 rfl
def dl_Dr_countHurdles_0 : List (Nat × Instr × Nat) := [(0, .aload_n 0, 1), (1, .invokevirtual 87, 3), (4, .istore_n 1, 1), (5, .iconst 0, 1), (6, .istore_n 2, 1), (7, .iconst 0, 1), (8, .istore_n 3, 1), (9, .iload_n 3, 1), (10, .aload_n 0, 1), (11, .getfield 40, 3), (14, .if_icmp .ge 31, 3), (17, .aload_n 0, 1), (18, .getfield 34, 3), (21, .iload_n 3, 1), (22, .baload, 1), (23, .ifCond .eq 16, 3), (26, .aload_n 0, 1), (27, .iload_n 3, 1), (28, .iload_n 1, 1), (29, .invokevirtual 91, 3), (32, .iconst 1, 1), (33, .if_icmp .gt 6, 3), (36, .iinc 2 1, 3), (39, .iinc 3 1, 3), (42, .goto (-33), 3), (45, .iload_n 2, 1), (46, .ireturn, 1)]
theorem dm_Dr_countHurdles_0 : dl_Dr_countHurdles_0.all (fun q => decide (decode cd_Dr_countHurdles q.1 = .ok (q.2.1, q.2.2))) = true := by decide +kernel
theorem dc_Dr_countHurdles_0 : decode cd_Dr_countHurdles 0 = .ok (.aload_n 0, 1) := dq_at (q := (0, .aload_n 0, 1)) dm_Dr_countHurdles_0 0 rfl
theorem dc_Dr_countHurdles_1 : decode cd_Dr_countHurdles 1 = .ok (.invokevirtual 87, 3) := dq_at (q := (1, .invokevirtual 87, 3)) dm_Dr_countHurdles_0 1 rfl
theorem dc_Dr_countHurdles_4 : decode cd_Dr_countHurdles 4 = .ok (.istore_n 1, 1) := dq_at (q := (4, .istore_n 1, 1)) dm_Dr_countHurdles_0 2 rfl
theorem dc_Dr_countHurdles_5 : decode cd_Dr_countHurdles 5 = .ok (.iconst 0, 1) := dq_at (q := (5, .iconst 0, 1)) dm_Dr_countHurdles_0 3 rfl
theorem dc_Dr_countHurdles_6 : decode cd_Dr_countHurdles 6 = .ok (.istore_n 2, 1) := dq_at (q := (6, .istore_n 2, 1)) dm_Dr_countHurdles_0 4 rfl
theorem dc_Dr_countHurdles_7 : decode cd_Dr_countHurdles 7 = .ok (.iconst 0, 1) := dq_at (q := (7, .iconst 0, 1)) dm_Dr_countHurdles_0 5 rfl
theorem dc_Dr_countHurdles_8 : decode cd_Dr_countHurdles 8 = .ok (.istore_n 3, 1) := dq_at (q := (8, .istore_n 3, 1)) dm_Dr_countHurdles_0 6 rfl
theorem dc_Dr_countHurdles_9 : decode cd_Dr_countHurdles 9 = .ok (.iload_n 3, 1) := dq_at (q := (9, .iload_n 3, 1)) dm_Dr_countHurdles_0 7 rfl
theorem dc_Dr_countHurdles_10 : decode cd_Dr_countHurdles 10 = .ok (.aload_n 0, 1) := dq_at (q := (10, .aload_n 0, 1)) dm_Dr_countHurdles_0 8 rfl
theorem dc_Dr_countHurdles_11 : decode cd_Dr_countHurdles 11 = .ok (.getfield 40, 3) := dq_at (q := (11, .getfield 40, 3)) dm_Dr_countHurdles_0 9 rfl
theorem dc_Dr_countHurdles_14 : decode cd_Dr_countHurdles 14 = .ok (.if_icmp .ge 31, 3) := dq_at (q := (14, .if_icmp .ge 31, 3)) dm_Dr_countHurdles_0 10 rfl
theorem dc_Dr_countHurdles_17 : decode cd_Dr_countHurdles 17 = .ok (.aload_n 0, 1) := dq_at (q := (17, .aload_n 0, 1)) dm_Dr_countHurdles_0 11 rfl
theorem dc_Dr_countHurdles_18 : decode cd_Dr_countHurdles 18 = .ok (.getfield 34, 3) := dq_at (q := (18, .getfield 34, 3)) dm_Dr_countHurdles_0 12 rfl
theorem dc_Dr_countHurdles_21 : decode cd_Dr_countHurdles 21 = .ok (.iload_n 3, 1) := dq_at (q := (21, .iload_n 3, 1)) dm_Dr_countHurdles_0 13 rfl
theorem dc_Dr_countHurdles_22 : decode cd_Dr_countHurdles 22 = .ok (.baload, 1) := dq_at (q := (22, .baload, 1)) dm_Dr_countHurdles_0 14 rfl
theorem dc_Dr_countHurdles_23 : decode cd_Dr_countHurdles 23 = .ok (.ifCond .eq 16, 3) := dq_at (q := (23, .ifCond .eq 16, 3)) dm_Dr_countHurdles_0 15 rfl
theorem dc_Dr_countHurdles_26 : decode cd_Dr_countHurdles 26 = .ok (.aload_n 0, 1) := dq_at (q := (26, .aload_n 0, 1)) dm_Dr_countHurdles_0 16 rfl
theorem dc_Dr_countHurdles_27 : decode cd_Dr_countHurdles 27 = .ok (.iload_n 3, 1) := dq_at (q := (27, .iload_n 3, 1)) dm_Dr_countHurdles_0 17 rfl
theorem dc_Dr_countHurdles_28 : decode cd_Dr_countHurdles 28 = .ok (.iload_n 1, 1) := dq_at (q := (28, .iload_n 1, 1)) dm_Dr_countHurdles_0 18 rfl
theorem dc_Dr_countHurdles_29 : decode cd_Dr_countHurdles 29 = .ok (.invokevirtual 91, 3) := dq_at (q := (29, .invokevirtual 91, 3)) dm_Dr_countHurdles_0 19 rfl
theorem dc_Dr_countHurdles_32 : decode cd_Dr_countHurdles 32 = .ok (.iconst 1, 1) := dq_at (q := (32, .iconst 1, 1)) dm_Dr_countHurdles_0 20 rfl
theorem dc_Dr_countHurdles_33 : decode cd_Dr_countHurdles 33 = .ok (.if_icmp .gt 6, 3) := dq_at (q := (33, .if_icmp .gt 6, 3)) dm_Dr_countHurdles_0 21 rfl
theorem dc_Dr_countHurdles_36 : decode cd_Dr_countHurdles 36 = .ok (.iinc 2 1, 3) := dq_at (q := (36, .iinc 2 1, 3)) dm_Dr_countHurdles_0 22 rfl
theorem dc_Dr_countHurdles_39 : decode cd_Dr_countHurdles 39 = .ok (.iinc 3 1, 3) := dq_at (q := (39, .iinc 3 1, 3)) dm_Dr_countHurdles_0 23 rfl
theorem dc_Dr_countHurdles_42 : decode cd_Dr_countHurdles 42 = .ok (.goto (-33), 3) := dq_at (q := (42, .goto (-33), 3)) dm_Dr_countHurdles_0 24 rfl
theorem dc_Dr_countHurdles_45 : decode cd_Dr_countHurdles 45 = .ok (.iload_n 2, 1) := dq_at (q := (45, .iload_n 2, 1)) dm_Dr_countHurdles_0 25 rfl
theorem dc_Dr_countHurdles_46 : decode cd_Dr_countHurdles 46 = .ok (.ireturn, 1) := dq_at (q := (46, .ireturn, 1)) dm_Dr_countHurdles_0 26 rfl
def dl_Dr_writeBadAround_0 : List (Nat × Instr × Nat) := [(0, .iconst 0, 1), (1, .istore_n 1, 1), (2, .iconst 0, 1), (3, .istore_n 2, 1), (4, .iload_n 2, 1), (5, .aload_n 0, 1), (6, .getfield 44, 3), (9, .if_icmp .ge 42, 3), (12, .aload_n 0, 1), (13, .getfield 31, 3), (16, .aload_n 0, 1), (17, .getfield 21, 3), (20, .iload_n 2, 1), (21, .iaload, 1), (22, .iconst 2, 1), (23, .idiv, 1), (24, .iaload, 1), (25, .istore_n 3, 1), (26, .aload_n 0, 1), (27, .getfield 34, 3), (30, .iload_n 3, 1), (31, .baload, 1), (32, .ifCond .eq 13, 3), (35, .aload_n 0, 1), (36, .getfield 37, 3), (39, .iload_n 1, 1), (40, .iload_n 3, 1), (41, .iastore, 1), (42, .iinc 1 1, 3), (45, .iinc 2 1, 3), (48, .goto (-44), 3), (51, .iload_n 1, 1), (52, .ireturn, 1)]
theorem dm_Dr_writeBadAround_0 : dl_Dr_writeBadAround_0.all (fun q => decide (decode cd_Dr_writeBadAround q.1 = .ok (q.2.1, q.2.2))) = true := by decide +kernel
theorem dc_Dr_writeBadAround_0 : decode cd_Dr_writeBadAround 0 = .ok (.iconst 0, 1) := dq_at (q := (0, .iconst 0, 1)) dm_Dr_writeBadAround_0 0 rfl
theorem dc_Dr_writeBadAround_1 : decode cd_Dr_writeBadAround 1 = .ok (.istore_n 1, 1) := dq_at (q := (1, .istore_n 1, 1)) dm_Dr_writeBadAround_0 1 rfl
theorem dc_Dr_writeBadAround_2 : decode cd_Dr_writeBadAround 2 = .ok (.iconst 0, 1) := dq_at (q := (2, .iconst 0, 1)) dm_Dr_writeBadAround_0 2 rfl
theorem dc_Dr_writeBadAround_3 : decode cd_Dr_writeBadAround 3 = .ok (.istore_n 2, 1) := dq_at (q := (3, .istore_n 2, 1)) dm_Dr_writeBadAround_0 3 rfl
theorem dc_Dr_writeBadAround_4 : decode cd_Dr_writeBadAround 4 = .ok (.iload_n 2, 1) := dq_at (q := (4, .iload_n 2, 1)) dm_Dr_writeBadAround_0 4 rfl
theorem dc_Dr_writeBadAround_5 : decode cd_Dr_writeBadAround 5 = .ok (.aload_n 0, 1) := dq_at (q := (5, .aload_n 0, 1)) dm_Dr_writeBadAround_0 5 rfl
theorem dc_Dr_writeBadAround_6 : decode cd_Dr_writeBadAround 6 = .ok (.getfield 44, 3) := dq_at (q := (6, .getfield 44, 3)) dm_Dr_writeBadAround_0 6 rfl
theorem dc_Dr_writeBadAround_9 : decode cd_Dr_writeBadAround 9 = .ok (.if_icmp .ge 42, 3) := dq_at (q := (9, .if_icmp .ge 42, 3)) dm_Dr_writeBadAround_0 7 rfl
theorem dc_Dr_writeBadAround_12 : decode cd_Dr_writeBadAround 12 = .ok (.aload_n 0, 1) := dq_at (q := (12, .aload_n 0, 1)) dm_Dr_writeBadAround_0 8 rfl
theorem dc_Dr_writeBadAround_13 : decode cd_Dr_writeBadAround 13 = .ok (.getfield 31, 3) := dq_at (q := (13, .getfield 31, 3)) dm_Dr_writeBadAround_0 9 rfl
theorem dc_Dr_writeBadAround_16 : decode cd_Dr_writeBadAround 16 = .ok (.aload_n 0, 1) := dq_at (q := (16, .aload_n 0, 1)) dm_Dr_writeBadAround_0 10 rfl
theorem dc_Dr_writeBadAround_17 : decode cd_Dr_writeBadAround 17 = .ok (.getfield 21, 3) := dq_at (q := (17, .getfield 21, 3)) dm_Dr_writeBadAround_0 11 rfl
theorem dc_Dr_writeBadAround_20 : decode cd_Dr_writeBadAround 20 = .ok (.iload_n 2, 1) := dq_at (q := (20, .iload_n 2, 1)) dm_Dr_writeBadAround_0 12 rfl
theorem dc_Dr_writeBadAround_21 : decode cd_Dr_writeBadAround 21 = .ok (.iaload, 1) := dq_at (q := (21, .iaload, 1)) dm_Dr_writeBadAround_0 13 rfl
theorem dc_Dr_writeBadAround_22 : decode cd_Dr_writeBadAround 22 = .ok (.iconst 2, 1) := dq_at (q := (22, .iconst 2, 1)) dm_Dr_writeBadAround_0 14 rfl
theorem dc_Dr_writeBadAround_23 : decode cd_Dr_writeBadAround 23 = .ok (.idiv, 1) := dq_at (q := (23, .idiv, 1)) dm_Dr_writeBadAround_0 15 rfl
theorem dc_Dr_writeBadAround_24 : decode cd_Dr_writeBadAround 24 = .ok (.iaload, 1) := dq_at (q := (24, .iaload, 1)) dm_Dr_writeBadAround_0 16 rfl
theorem dc_Dr_writeBadAround_25 : decode cd_Dr_writeBadAround 25 = .ok (.istore_n 3, 1) := dq_at (q := (25, .istore_n 3, 1)) dm_Dr_writeBadAround_0 17 rfl
theorem dc_Dr_writeBadAround_26 : decode cd_Dr_writeBadAround 26 = .ok (.aload_n 0, 1) := dq_at (q := (26, .aload_n 0, 1)) dm_Dr_writeBadAround_0 18 rfl
theorem dc_Dr_writeBadAround_27 : decode cd_Dr_writeBadAround 27 = .ok (.getfield 34, 3) := dq_at (q := (27, .getfield 34, 3)) dm_Dr_writeBadAround_0 19 rfl
theorem dc_Dr_writeBadAround_30 : decode cd_Dr_writeBadAround 30 = .ok (.iload_n 3, 1) := dq_at (q := (30, .iload_n 3, 1)) dm_Dr_writeBadAround_0 20 rfl
theorem dc_Dr_writeBadAround_31 : decode cd_Dr_writeBadAround 31 = .ok (.baload, 1) := dq_at (q := (31, .baload, 1)) dm_Dr_writeBadAround_0 21 rfl
theorem dc_Dr_writeBadAround_32 : decode cd_Dr_writeBadAround 32 = .ok (.ifCond .eq 13, 3) := dq_at (q := (32, .ifCond .eq 13, 3)) dm_Dr_writeBadAround_0 22 rfl
theorem dc_Dr_writeBadAround_35 : decode cd_Dr_writeBadAround 35 = .ok (.aload_n 0, 1) := dq_at (q := (35, .aload_n 0, 1)) dm_Dr_writeBadAround_0 23 rfl
theorem dc_Dr_writeBadAround_36 : decode cd_Dr_writeBadAround 36 = .ok (.getfield 37, 3) := dq_at (q := (36, .getfield 37, 3)) dm_Dr_writeBadAround_0 24 rfl
theorem dc_Dr_writeBadAround_39 : decode cd_Dr_writeBadAround 39 = .ok (.iload_n 1, 1) := dq_at (q := (39, .iload_n 1, 1)) dm_Dr_writeBadAround_0 25 rfl
theorem dc_Dr_writeBadAround_40 : decode cd_Dr_writeBadAround 40 = .ok (.iload_n 3, 1) := dq_at (q := (40, .iload_n 3, 1)) dm_Dr_writeBadAround_0 26 rfl
theorem dc_Dr_writeBadAround_41 : decode cd_Dr_writeBadAround 41 = .ok (.iastore, 1) := dq_at (q := (41, .iastore, 1)) dm_Dr_writeBadAround_0 27 rfl
theorem dc_Dr_writeBadAround_42 : decode cd_Dr_writeBadAround 42 = .ok (.iinc 1 1, 3) := dq_at (q := (42, .iinc 1 1, 3)) dm_Dr_writeBadAround_0 28 rfl
theorem dc_Dr_writeBadAround_45 : decode cd_Dr_writeBadAround 45 = .ok (.iinc 2 1, 3) := dq_at (q := (45, .iinc 2 1, 3)) dm_Dr_writeBadAround_0 29 rfl
theorem dc_Dr_writeBadAround_48 : decode cd_Dr_writeBadAround 48 = .ok (.goto (-44), 3) := dq_at (q := (48, .goto (-44), 3)) dm_Dr_writeBadAround_0 30 rfl
theorem dc_Dr_writeBadAround_51 : decode cd_Dr_writeBadAround 51 = .ok (.iload_n 1, 1) := dq_at (q := (51, .iload_n 1, 1)) dm_Dr_writeBadAround_0 31 rfl
theorem dc_Dr_writeBadAround_52 : decode cd_Dr_writeBadAround 52 = .ok (.ireturn, 1) := dq_at (q := (52, .ireturn, 1)) dm_Dr_writeBadAround_0 32 rfl
def dl_Dr_countRunEnds_0 : List (Nat × Instr × Nat) := [(0, .iconst 0, 1), (1, .istore_n 3, 1), (2, .iconst 0, 1), (3, .istore 4, 2), (5, .iload 4, 2), (7, .iload_n 2, 1), (8, .if_icmp .ge 52, 3), (11, .iload 4, 2), (13, .iconst 1, 1), (14, .iadd, 1), (15, .iload_n 2, 1), (16, .if_icmp .ge 10, 3), (19, .iload 4, 2), (21, .iconst 1, 1), (22, .iadd, 1), (23, .goto 4, 3), (26, .iconst 0, 1), (27, .istore 5, 2), (29, .aload_n 0, 1), (30, .getfield 37, 3), (33, .iload 4, 2), (35, .iaload, 1), (36, .iload_n 1, 1), (37, .if_icmp .ne 17, 3), (40, .aload_n 0, 1), (41, .getfield 37, 3), (44, .iload 5, 2), (46, .iaload, 1), (47, .iload_n 1, 1), (48, .if_icmp .eq 6, 3), (51, .iinc 3 1, 3), (54, .iinc 4 1, 3), (57, .goto (-52), 3), (60, .iload_n 3, 1), (61, .ireturn, 1)]
theorem dm_Dr_countRunEnds_0 : dl_Dr_countRunEnds_0.all (fun q => decide (decode cd_Dr_countRunEnds q.1 = .ok (q.2.1, q.2.2))) = true := by decide +kernel
theorem dc_Dr_countRunEnds_0 : decode cd_Dr_countRunEnds 0 = .ok (.iconst 0, 1) := dq_at (q := (0, .iconst 0, 1)) dm_Dr_countRunEnds_0 0 rfl
theorem dc_Dr_countRunEnds_1 : decode cd_Dr_countRunEnds 1 = .ok (.istore_n 3, 1) := dq_at (q := (1, .istore_n 3, 1)) dm_Dr_countRunEnds_0 1 rfl
theorem dc_Dr_countRunEnds_2 : decode cd_Dr_countRunEnds 2 = .ok (.iconst 0, 1) := dq_at (q := (2, .iconst 0, 1)) dm_Dr_countRunEnds_0 2 rfl
theorem dc_Dr_countRunEnds_3 : decode cd_Dr_countRunEnds 3 = .ok (.istore 4, 2) := dq_at (q := (3, .istore 4, 2)) dm_Dr_countRunEnds_0 3 rfl
theorem dc_Dr_countRunEnds_5 : decode cd_Dr_countRunEnds 5 = .ok (.iload 4, 2) := dq_at (q := (5, .iload 4, 2)) dm_Dr_countRunEnds_0 4 rfl
theorem dc_Dr_countRunEnds_7 : decode cd_Dr_countRunEnds 7 = .ok (.iload_n 2, 1) := dq_at (q := (7, .iload_n 2, 1)) dm_Dr_countRunEnds_0 5 rfl
theorem dc_Dr_countRunEnds_8 : decode cd_Dr_countRunEnds 8 = .ok (.if_icmp .ge 52, 3) := dq_at (q := (8, .if_icmp .ge 52, 3)) dm_Dr_countRunEnds_0 6 rfl
theorem dc_Dr_countRunEnds_11 : decode cd_Dr_countRunEnds 11 = .ok (.iload 4, 2) := dq_at (q := (11, .iload 4, 2)) dm_Dr_countRunEnds_0 7 rfl
theorem dc_Dr_countRunEnds_13 : decode cd_Dr_countRunEnds 13 = .ok (.iconst 1, 1) := dq_at (q := (13, .iconst 1, 1)) dm_Dr_countRunEnds_0 8 rfl
theorem dc_Dr_countRunEnds_14 : decode cd_Dr_countRunEnds 14 = .ok (.iadd, 1) := dq_at (q := (14, .iadd, 1)) dm_Dr_countRunEnds_0 9 rfl
theorem dc_Dr_countRunEnds_15 : decode cd_Dr_countRunEnds 15 = .ok (.iload_n 2, 1) := dq_at (q := (15, .iload_n 2, 1)) dm_Dr_countRunEnds_0 10 rfl
theorem dc_Dr_countRunEnds_16 : decode cd_Dr_countRunEnds 16 = .ok (.if_icmp .ge 10, 3) := dq_at (q := (16, .if_icmp .ge 10, 3)) dm_Dr_countRunEnds_0 11 rfl
theorem dc_Dr_countRunEnds_19 : decode cd_Dr_countRunEnds 19 = .ok (.iload 4, 2) := dq_at (q := (19, .iload 4, 2)) dm_Dr_countRunEnds_0 12 rfl
theorem dc_Dr_countRunEnds_21 : decode cd_Dr_countRunEnds 21 = .ok (.iconst 1, 1) := dq_at (q := (21, .iconst 1, 1)) dm_Dr_countRunEnds_0 13 rfl
theorem dc_Dr_countRunEnds_22 : decode cd_Dr_countRunEnds 22 = .ok (.iadd, 1) := dq_at (q := (22, .iadd, 1)) dm_Dr_countRunEnds_0 14 rfl
theorem dc_Dr_countRunEnds_23 : decode cd_Dr_countRunEnds 23 = .ok (.goto 4, 3) := dq_at (q := (23, .goto 4, 3)) dm_Dr_countRunEnds_0 15 rfl
theorem dc_Dr_countRunEnds_26 : decode cd_Dr_countRunEnds 26 = .ok (.iconst 0, 1) := dq_at (q := (26, .iconst 0, 1)) dm_Dr_countRunEnds_0 16 rfl
theorem dc_Dr_countRunEnds_27 : decode cd_Dr_countRunEnds 27 = .ok (.istore 5, 2) := dq_at (q := (27, .istore 5, 2)) dm_Dr_countRunEnds_0 17 rfl
theorem dc_Dr_countRunEnds_29 : decode cd_Dr_countRunEnds 29 = .ok (.aload_n 0, 1) := dq_at (q := (29, .aload_n 0, 1)) dm_Dr_countRunEnds_0 18 rfl
theorem dc_Dr_countRunEnds_30 : decode cd_Dr_countRunEnds 30 = .ok (.getfield 37, 3) := dq_at (q := (30, .getfield 37, 3)) dm_Dr_countRunEnds_0 19 rfl
theorem dc_Dr_countRunEnds_33 : decode cd_Dr_countRunEnds 33 = .ok (.iload 4, 2) := dq_at (q := (33, .iload 4, 2)) dm_Dr_countRunEnds_0 20 rfl
theorem dc_Dr_countRunEnds_35 : decode cd_Dr_countRunEnds 35 = .ok (.iaload, 1) := dq_at (q := (35, .iaload, 1)) dm_Dr_countRunEnds_0 21 rfl
theorem dc_Dr_countRunEnds_36 : decode cd_Dr_countRunEnds 36 = .ok (.iload_n 1, 1) := dq_at (q := (36, .iload_n 1, 1)) dm_Dr_countRunEnds_0 22 rfl
theorem dc_Dr_countRunEnds_37 : decode cd_Dr_countRunEnds 37 = .ok (.if_icmp .ne 17, 3) := dq_at (q := (37, .if_icmp .ne 17, 3)) dm_Dr_countRunEnds_0 23 rfl
theorem dc_Dr_countRunEnds_40 : decode cd_Dr_countRunEnds 40 = .ok (.aload_n 0, 1) := dq_at (q := (40, .aload_n 0, 1)) dm_Dr_countRunEnds_0 24 rfl
theorem dc_Dr_countRunEnds_41 : decode cd_Dr_countRunEnds 41 = .ok (.getfield 37, 3) := dq_at (q := (41, .getfield 37, 3)) dm_Dr_countRunEnds_0 25 rfl
theorem dc_Dr_countRunEnds_44 : decode cd_Dr_countRunEnds 44 = .ok (.iload 5, 2) := dq_at (q := (44, .iload 5, 2)) dm_Dr_countRunEnds_0 26 rfl
theorem dc_Dr_countRunEnds_46 : decode cd_Dr_countRunEnds 46 = .ok (.iaload, 1) := dq_at (q := (46, .iaload, 1)) dm_Dr_countRunEnds_0 27 rfl
theorem dc_Dr_countRunEnds_47 : decode cd_Dr_countRunEnds 47 = .ok (.iload_n 1, 1) := dq_at (q := (47, .iload_n 1, 1)) dm_Dr_countRunEnds_0 28 rfl
theorem dc_Dr_countRunEnds_48 : decode cd_Dr_countRunEnds 48 = .ok (.if_icmp .eq 6, 3) := dq_at (q := (48, .if_icmp .eq 6, 3)) dm_Dr_countRunEnds_0 29 rfl
theorem dc_Dr_countRunEnds_51 : decode cd_Dr_countRunEnds 51 = .ok (.iinc 3 1, 3) := dq_at (q := (51, .iinc 3 1, 3)) dm_Dr_countRunEnds_0 30 rfl
theorem dc_Dr_countRunEnds_54 : decode cd_Dr_countRunEnds 54 = .ok (.iinc 4 1, 3) := dq_at (q := (54, .iinc 4 1, 3)) dm_Dr_countRunEnds_0 31 rfl
theorem dc_Dr_countRunEnds_57 : decode cd_Dr_countRunEnds 57 = .ok (.goto (-52), 3) := dq_at (q := (57, .goto (-52), 3)) dm_Dr_countRunEnds_0 32 rfl
theorem dc_Dr_countRunEnds_60 : decode cd_Dr_countRunEnds 60 = .ok (.iload_n 3, 1) := dq_at (q := (60, .iload_n 3, 1)) dm_Dr_countRunEnds_0 33 rfl
theorem dc_Dr_countRunEnds_61 : decode cd_Dr_countRunEnds 61 = .ok (.ireturn, 1) := dq_at (q := (61, .ireturn, 1)) dm_Dr_countRunEnds_0 34 rfl
def dl_Dr_countOriented_0 : List (Nat × Instr × Nat) := [(0, .iconst 0, 1), (1, .istore_n 1, 1), (2, .iconst 0, 1), (3, .istore_n 2, 1), (4, .iload_n 2, 1), (5, .aload_n 0, 1), (6, .getfield 40, 3), (9, .if_icmp .ge 20, 3), (12, .aload_n 0, 1), (13, .iload_n 2, 1), (14, .invokevirtual 80, 3), (17, .ifCond .eq 6, 3), (20, .iinc 1 1, 3), (23, .iinc 2 1, 3), (26, .goto (-22), 3), (29, .iload_n 1, 1), (30, .ireturn, 1)]
theorem dm_Dr_countOriented_0 : dl_Dr_countOriented_0.all (fun q => decide (decode cd_Dr_countOriented q.1 = .ok (q.2.1, q.2.2))) = true := by decide +kernel
theorem dc_Dr_countOriented_0 : decode cd_Dr_countOriented 0 = .ok (.iconst 0, 1) := dq_at (q := (0, .iconst 0, 1)) dm_Dr_countOriented_0 0 rfl
theorem dc_Dr_countOriented_1 : decode cd_Dr_countOriented 1 = .ok (.istore_n 1, 1) := dq_at (q := (1, .istore_n 1, 1)) dm_Dr_countOriented_0 1 rfl
theorem dc_Dr_countOriented_2 : decode cd_Dr_countOriented 2 = .ok (.iconst 0, 1) := dq_at (q := (2, .iconst 0, 1)) dm_Dr_countOriented_0 2 rfl
theorem dc_Dr_countOriented_3 : decode cd_Dr_countOriented 3 = .ok (.istore_n 2, 1) := dq_at (q := (3, .istore_n 2, 1)) dm_Dr_countOriented_0 3 rfl
theorem dc_Dr_countOriented_4 : decode cd_Dr_countOriented 4 = .ok (.iload_n 2, 1) := dq_at (q := (4, .iload_n 2, 1)) dm_Dr_countOriented_0 4 rfl
theorem dc_Dr_countOriented_5 : decode cd_Dr_countOriented 5 = .ok (.aload_n 0, 1) := dq_at (q := (5, .aload_n 0, 1)) dm_Dr_countOriented_0 5 rfl
theorem dc_Dr_countOriented_6 : decode cd_Dr_countOriented 6 = .ok (.getfield 40, 3) := dq_at (q := (6, .getfield 40, 3)) dm_Dr_countOriented_0 6 rfl
theorem dc_Dr_countOriented_9 : decode cd_Dr_countOriented 9 = .ok (.if_icmp .ge 20, 3) := dq_at (q := (9, .if_icmp .ge 20, 3)) dm_Dr_countOriented_0 7 rfl
theorem dc_Dr_countOriented_12 : decode cd_Dr_countOriented 12 = .ok (.aload_n 0, 1) := dq_at (q := (12, .aload_n 0, 1)) dm_Dr_countOriented_0 8 rfl
theorem dc_Dr_countOriented_13 : decode cd_Dr_countOriented 13 = .ok (.iload_n 2, 1) := dq_at (q := (13, .iload_n 2, 1)) dm_Dr_countOriented_0 9 rfl
theorem dc_Dr_countOriented_14 : decode cd_Dr_countOriented 14 = .ok (.invokevirtual 80, 3) := dq_at (q := (14, .invokevirtual 80, 3)) dm_Dr_countOriented_0 10 rfl
theorem dc_Dr_countOriented_17 : decode cd_Dr_countOriented 17 = .ok (.ifCond .eq 6, 3) := dq_at (q := (17, .ifCond .eq 6, 3)) dm_Dr_countOriented_0 11 rfl
theorem dc_Dr_countOriented_20 : decode cd_Dr_countOriented 20 = .ok (.iinc 1 1, 3) := dq_at (q := (20, .iinc 1 1, 3)) dm_Dr_countOriented_0 12 rfl
theorem dc_Dr_countOriented_23 : decode cd_Dr_countOriented 23 = .ok (.iinc 2 1, 3) := dq_at (q := (23, .iinc 2 1, 3)) dm_Dr_countOriented_0 13 rfl
theorem dc_Dr_countOriented_26 : decode cd_Dr_countOriented 26 = .ok (.goto (-22), 3) := dq_at (q := (26, .goto (-22), 3)) dm_Dr_countOriented_0 14 rfl
theorem dc_Dr_countOriented_29 : decode cd_Dr_countOriented 29 = .ok (.iload_n 1, 1) := dq_at (q := (29, .iload_n 1, 1)) dm_Dr_countOriented_0 15 rfl
theorem dc_Dr_countOriented_30 : decode cd_Dr_countOriented 30 = .ok (.ireturn, 1) := dq_at (q := (30, .ireturn, 1)) dm_Dr_countOriented_0 16 rfl
def dl_Dr_countBreakpoints_0 : List (Nat × Instr × Nat) := [(0, .iconst 0, 1), (1, .istore_n 1, 1), (2, .iconst 0, 1), (3, .istore_n 2, 1), (4, .iload_n 2, 1), (5, .aload_n 0, 1), (6, .getfield 40, 3), (9, .if_icmp .ge 31, 3), (12, .aload_n 0, 1), (13, .getfield 18, 3), (16, .iload_n 2, 1), (17, .iconst 1, 1), (18, .iadd, 1), (19, .iaload, 1), (20, .aload_n 0, 1), (21, .getfield 18, 3), (24, .iload_n 2, 1), (25, .iaload, 1), (26, .iconst 1, 1), (27, .iadd, 1), (28, .if_icmp .eq 6, 3), (31, .iinc 1 1, 3), (34, .iinc 2 1, 3), (37, .goto (-33), 3), (40, .iload_n 1, 1), (41, .ireturn, 1)]
theorem dm_Dr_countBreakpoints_0 : dl_Dr_countBreakpoints_0.all (fun q => decide (decode cd_Dr_countBreakpoints q.1 = .ok (q.2.1, q.2.2))) = true := by decide +kernel
theorem dc_Dr_countBreakpoints_0 : decode cd_Dr_countBreakpoints 0 = .ok (.iconst 0, 1) := dq_at (q := (0, .iconst 0, 1)) dm_Dr_countBreakpoints_0 0 rfl
theorem dc_Dr_countBreakpoints_1 : decode cd_Dr_countBreakpoints 1 = .ok (.istore_n 1, 1) := dq_at (q := (1, .istore_n 1, 1)) dm_Dr_countBreakpoints_0 1 rfl
theorem dc_Dr_countBreakpoints_2 : decode cd_Dr_countBreakpoints 2 = .ok (.iconst 0, 1) := dq_at (q := (2, .iconst 0, 1)) dm_Dr_countBreakpoints_0 2 rfl
theorem dc_Dr_countBreakpoints_3 : decode cd_Dr_countBreakpoints 3 = .ok (.istore_n 2, 1) := dq_at (q := (3, .istore_n 2, 1)) dm_Dr_countBreakpoints_0 3 rfl
theorem dc_Dr_countBreakpoints_4 : decode cd_Dr_countBreakpoints 4 = .ok (.iload_n 2, 1) := dq_at (q := (4, .iload_n 2, 1)) dm_Dr_countBreakpoints_0 4 rfl
theorem dc_Dr_countBreakpoints_5 : decode cd_Dr_countBreakpoints 5 = .ok (.aload_n 0, 1) := dq_at (q := (5, .aload_n 0, 1)) dm_Dr_countBreakpoints_0 5 rfl
theorem dc_Dr_countBreakpoints_6 : decode cd_Dr_countBreakpoints 6 = .ok (.getfield 40, 3) := dq_at (q := (6, .getfield 40, 3)) dm_Dr_countBreakpoints_0 6 rfl
theorem dc_Dr_countBreakpoints_9 : decode cd_Dr_countBreakpoints 9 = .ok (.if_icmp .ge 31, 3) := dq_at (q := (9, .if_icmp .ge 31, 3)) dm_Dr_countBreakpoints_0 7 rfl
theorem dc_Dr_countBreakpoints_12 : decode cd_Dr_countBreakpoints 12 = .ok (.aload_n 0, 1) := dq_at (q := (12, .aload_n 0, 1)) dm_Dr_countBreakpoints_0 8 rfl
theorem dc_Dr_countBreakpoints_13 : decode cd_Dr_countBreakpoints 13 = .ok (.getfield 18, 3) := dq_at (q := (13, .getfield 18, 3)) dm_Dr_countBreakpoints_0 9 rfl
theorem dc_Dr_countBreakpoints_16 : decode cd_Dr_countBreakpoints 16 = .ok (.iload_n 2, 1) := dq_at (q := (16, .iload_n 2, 1)) dm_Dr_countBreakpoints_0 10 rfl
theorem dc_Dr_countBreakpoints_17 : decode cd_Dr_countBreakpoints 17 = .ok (.iconst 1, 1) := dq_at (q := (17, .iconst 1, 1)) dm_Dr_countBreakpoints_0 11 rfl
theorem dc_Dr_countBreakpoints_18 : decode cd_Dr_countBreakpoints 18 = .ok (.iadd, 1) := dq_at (q := (18, .iadd, 1)) dm_Dr_countBreakpoints_0 12 rfl
theorem dc_Dr_countBreakpoints_19 : decode cd_Dr_countBreakpoints 19 = .ok (.iaload, 1) := dq_at (q := (19, .iaload, 1)) dm_Dr_countBreakpoints_0 13 rfl
theorem dc_Dr_countBreakpoints_20 : decode cd_Dr_countBreakpoints 20 = .ok (.aload_n 0, 1) := dq_at (q := (20, .aload_n 0, 1)) dm_Dr_countBreakpoints_0 14 rfl
theorem dc_Dr_countBreakpoints_21 : decode cd_Dr_countBreakpoints 21 = .ok (.getfield 18, 3) := dq_at (q := (21, .getfield 18, 3)) dm_Dr_countBreakpoints_0 15 rfl
theorem dc_Dr_countBreakpoints_24 : decode cd_Dr_countBreakpoints 24 = .ok (.iload_n 2, 1) := dq_at (q := (24, .iload_n 2, 1)) dm_Dr_countBreakpoints_0 16 rfl
theorem dc_Dr_countBreakpoints_25 : decode cd_Dr_countBreakpoints 25 = .ok (.iaload, 1) := dq_at (q := (25, .iaload, 1)) dm_Dr_countBreakpoints_0 17 rfl
theorem dc_Dr_countBreakpoints_26 : decode cd_Dr_countBreakpoints 26 = .ok (.iconst 1, 1) := dq_at (q := (26, .iconst 1, 1)) dm_Dr_countBreakpoints_0 18 rfl
theorem dc_Dr_countBreakpoints_27 : decode cd_Dr_countBreakpoints 27 = .ok (.iadd, 1) := dq_at (q := (27, .iadd, 1)) dm_Dr_countBreakpoints_0 19 rfl
theorem dc_Dr_countBreakpoints_28 : decode cd_Dr_countBreakpoints 28 = .ok (.if_icmp .eq 6, 3) := dq_at (q := (28, .if_icmp .eq 6, 3)) dm_Dr_countBreakpoints_0 20 rfl
theorem dc_Dr_countBreakpoints_31 : decode cd_Dr_countBreakpoints 31 = .ok (.iinc 1 1, 3) := dq_at (q := (31, .iinc 1 1, 3)) dm_Dr_countBreakpoints_0 21 rfl
theorem dc_Dr_countBreakpoints_34 : decode cd_Dr_countBreakpoints 34 = .ok (.iinc 2 1, 3) := dq_at (q := (34, .iinc 2 1, 3)) dm_Dr_countBreakpoints_0 22 rfl
theorem dc_Dr_countBreakpoints_37 : decode cd_Dr_countBreakpoints 37 = .ok (.goto (-33), 3) := dq_at (q := (37, .goto (-33), 3)) dm_Dr_countBreakpoints_0 23 rfl
theorem dc_Dr_countBreakpoints_40 : decode cd_Dr_countBreakpoints 40 = .ok (.iload_n 1, 1) := dq_at (q := (40, .iload_n 1, 1)) dm_Dr_countBreakpoints_0 24 rfl
theorem dc_Dr_countBreakpoints_41 : decode cd_Dr_countBreakpoints 41 = .ok (.ireturn, 1) := dq_at (q := (41, .ireturn, 1)) dm_Dr_countBreakpoints_0 25 rfl
def dl_Dr_fewestReversals_0 : List (Nat × Instr × Nat) := [(0, .aload_n 0, 1), (1, .getfield 40, 3), (4, .aload_n 0, 1), (5, .invokevirtual 94, 3), (8, .isub, 1), (9, .aload_n 0, 1), (10, .invokevirtual 97, 3), (13, .iadd, 1), (14, .ireturn, 1)]
theorem dm_Dr_fewestReversals_0 : dl_Dr_fewestReversals_0.all (fun q => decide (decode cd_Dr_fewestReversals q.1 = .ok (q.2.1, q.2.2))) = true := by decide +kernel
theorem dc_Dr_fewestReversals_0 : decode cd_Dr_fewestReversals 0 = .ok (.aload_n 0, 1) := dq_at (q := (0, .aload_n 0, 1)) dm_Dr_fewestReversals_0 0 rfl
theorem dc_Dr_fewestReversals_1 : decode cd_Dr_fewestReversals 1 = .ok (.getfield 40, 3) := dq_at (q := (1, .getfield 40, 3)) dm_Dr_fewestReversals_0 1 rfl
theorem dc_Dr_fewestReversals_4 : decode cd_Dr_fewestReversals 4 = .ok (.aload_n 0, 1) := dq_at (q := (4, .aload_n 0, 1)) dm_Dr_fewestReversals_0 2 rfl
theorem dc_Dr_fewestReversals_5 : decode cd_Dr_fewestReversals 5 = .ok (.invokevirtual 94, 3) := dq_at (q := (5, .invokevirtual 94, 3)) dm_Dr_fewestReversals_0 3 rfl
theorem dc_Dr_fewestReversals_8 : decode cd_Dr_fewestReversals 8 = .ok (.isub, 1) := dq_at (q := (8, .isub, 1)) dm_Dr_fewestReversals_0 4 rfl
theorem dc_Dr_fewestReversals_9 : decode cd_Dr_fewestReversals 9 = .ok (.aload_n 0, 1) := dq_at (q := (9, .aload_n 0, 1)) dm_Dr_fewestReversals_0 5 rfl
theorem dc_Dr_fewestReversals_10 : decode cd_Dr_fewestReversals 10 = .ok (.invokevirtual 97, 3) := dq_at (q := (10, .invokevirtual 97, 3)) dm_Dr_fewestReversals_0 6 rfl
theorem dc_Dr_fewestReversals_13 : decode cd_Dr_fewestReversals 13 = .ok (.iadd, 1) := dq_at (q := (13, .iadd, 1)) dm_Dr_fewestReversals_0 7 rfl
theorem dc_Dr_fewestReversals_14 : decode cd_Dr_fewestReversals 14 = .ok (.ireturn, 1) := dq_at (q := (14, .ireturn, 1)) dm_Dr_fewestReversals_0 8 rfl
def dl_Sl_init_0 : List (Nat × Instr × Nat) := [(0, .aload_n 0, 1), (1, .invokespecial 3, 3), (4, .aload_n 0, 1), (5, .bipush 6, 2), (7, .newarray .int, 2), (9, .putfield 9, 3), (12, .aload_n 0, 1), (13, .bipush 8, 2), (15, .newarray .int, 2), (17, .putfield 15, 3), (20, .aload_n 0, 1), (21, .bipush 8, 2), (23, .newarray .int, 2), (25, .putfield 18, 3), (28, .aload_n 0, 1), (29, .invokevirtual 21, 3), (32, .return_, 1)]
theorem dm_Sl_init_0 : dl_Sl_init_0.all (fun q => decide (decode cd_Sl_init q.1 = .ok (q.2.1, q.2.2))) = true := by decide +kernel
theorem dc_Sl_init_0 : decode cd_Sl_init 0 = .ok (.aload_n 0, 1) := dq_at (q := (0, .aload_n 0, 1)) dm_Sl_init_0 0 rfl
theorem dc_Sl_init_1 : decode cd_Sl_init 1 = .ok (.invokespecial 3, 3) := dq_at (q := (1, .invokespecial 3, 3)) dm_Sl_init_0 1 rfl
theorem dc_Sl_init_4 : decode cd_Sl_init 4 = .ok (.aload_n 0, 1) := dq_at (q := (4, .aload_n 0, 1)) dm_Sl_init_0 2 rfl
theorem dc_Sl_init_5 : decode cd_Sl_init 5 = .ok (.bipush 6, 2) := dq_at (q := (5, .bipush 6, 2)) dm_Sl_init_0 3 rfl
theorem dc_Sl_init_7 : decode cd_Sl_init 7 = .ok (.newarray .int, 2) := dq_at (q := (7, .newarray .int, 2)) dm_Sl_init_0 4 rfl
theorem dc_Sl_init_9 : decode cd_Sl_init 9 = .ok (.putfield 9, 3) := dq_at (q := (9, .putfield 9, 3)) dm_Sl_init_0 5 rfl
theorem dc_Sl_init_12 : decode cd_Sl_init 12 = .ok (.aload_n 0, 1) := dq_at (q := (12, .aload_n 0, 1)) dm_Sl_init_0 6 rfl
theorem dc_Sl_init_13 : decode cd_Sl_init 13 = .ok (.bipush 8, 2) := dq_at (q := (13, .bipush 8, 2)) dm_Sl_init_0 7 rfl
theorem dc_Sl_init_15 : decode cd_Sl_init 15 = .ok (.newarray .int, 2) := dq_at (q := (15, .newarray .int, 2)) dm_Sl_init_0 8 rfl
theorem dc_Sl_init_17 : decode cd_Sl_init 17 = .ok (.putfield 15, 3) := dq_at (q := (17, .putfield 15, 3)) dm_Sl_init_0 9 rfl
theorem dc_Sl_init_20 : decode cd_Sl_init 20 = .ok (.aload_n 0, 1) := dq_at (q := (20, .aload_n 0, 1)) dm_Sl_init_0 10 rfl
theorem dc_Sl_init_21 : decode cd_Sl_init 21 = .ok (.bipush 8, 2) := dq_at (q := (21, .bipush 8, 2)) dm_Sl_init_0 11 rfl
theorem dc_Sl_init_23 : decode cd_Sl_init 23 = .ok (.newarray .int, 2) := dq_at (q := (23, .newarray .int, 2)) dm_Sl_init_0 12 rfl
theorem dc_Sl_init_25 : decode cd_Sl_init 25 = .ok (.putfield 18, 3) := dq_at (q := (25, .putfield 18, 3)) dm_Sl_init_0 13 rfl
theorem dc_Sl_init_28 : decode cd_Sl_init 28 = .ok (.aload_n 0, 1) := dq_at (q := (28, .aload_n 0, 1)) dm_Sl_init_0 14 rfl
theorem dc_Sl_init_29 : decode cd_Sl_init 29 = .ok (.invokevirtual 21, 3) := dq_at (q := (29, .invokevirtual 21, 3)) dm_Sl_init_0 15 rfl
theorem dc_Sl_init_32 : decode cd_Sl_init 32 = .ok (.return_, 1) := dq_at (q := (32, .return_, 1)) dm_Sl_init_0 16 rfl
def dl_Sl_becomePlain_0 : List (Nat × Instr × Nat) := [(0, .iconst 0, 1), (1, .istore_n 1, 1), (2, .iload_n 1, 1), (3, .bipush 6, 2), (5, .if_icmp .ge 18, 3), (8, .aload_n 0, 1), (9, .getfield 9, 3), (12, .iload_n 1, 1), (13, .iload_n 1, 1), (14, .iconst 1, 1), (15, .iadd, 1), (16, .iastore, 1), (17, .iinc 1 1, 3), (20, .goto (-18), 3), (23, .aload_n 0, 1), (24, .iconst 0, 1), (25, .putfield 24, 3), (28, .return_, 1)]
theorem dm_Sl_becomePlain_0 : dl_Sl_becomePlain_0.all (fun q => decide (decode cd_Sl_becomePlain q.1 = .ok (q.2.1, q.2.2))) = true := by decide +kernel
theorem dc_Sl_becomePlain_0 : decode cd_Sl_becomePlain 0 = .ok (.iconst 0, 1) := dq_at (q := (0, .iconst 0, 1)) dm_Sl_becomePlain_0 0 rfl
theorem dc_Sl_becomePlain_1 : decode cd_Sl_becomePlain 1 = .ok (.istore_n 1, 1) := dq_at (q := (1, .istore_n 1, 1)) dm_Sl_becomePlain_0 1 rfl
theorem dc_Sl_becomePlain_2 : decode cd_Sl_becomePlain 2 = .ok (.iload_n 1, 1) := dq_at (q := (2, .iload_n 1, 1)) dm_Sl_becomePlain_0 2 rfl
theorem dc_Sl_becomePlain_3 : decode cd_Sl_becomePlain 3 = .ok (.bipush 6, 2) := dq_at (q := (3, .bipush 6, 2)) dm_Sl_becomePlain_0 3 rfl
theorem dc_Sl_becomePlain_5 : decode cd_Sl_becomePlain 5 = .ok (.if_icmp .ge 18, 3) := dq_at (q := (5, .if_icmp .ge 18, 3)) dm_Sl_becomePlain_0 4 rfl
theorem dc_Sl_becomePlain_8 : decode cd_Sl_becomePlain 8 = .ok (.aload_n 0, 1) := dq_at (q := (8, .aload_n 0, 1)) dm_Sl_becomePlain_0 5 rfl
theorem dc_Sl_becomePlain_9 : decode cd_Sl_becomePlain 9 = .ok (.getfield 9, 3) := dq_at (q := (9, .getfield 9, 3)) dm_Sl_becomePlain_0 6 rfl
theorem dc_Sl_becomePlain_12 : decode cd_Sl_becomePlain 12 = .ok (.iload_n 1, 1) := dq_at (q := (12, .iload_n 1, 1)) dm_Sl_becomePlain_0 7 rfl
theorem dc_Sl_becomePlain_13 : decode cd_Sl_becomePlain 13 = .ok (.iload_n 1, 1) := dq_at (q := (13, .iload_n 1, 1)) dm_Sl_becomePlain_0 8 rfl
theorem dc_Sl_becomePlain_14 : decode cd_Sl_becomePlain 14 = .ok (.iconst 1, 1) := dq_at (q := (14, .iconst 1, 1)) dm_Sl_becomePlain_0 9 rfl
theorem dc_Sl_becomePlain_15 : decode cd_Sl_becomePlain 15 = .ok (.iadd, 1) := dq_at (q := (15, .iadd, 1)) dm_Sl_becomePlain_0 10 rfl
theorem dc_Sl_becomePlain_16 : decode cd_Sl_becomePlain 16 = .ok (.iastore, 1) := dq_at (q := (16, .iastore, 1)) dm_Sl_becomePlain_0 11 rfl
theorem dc_Sl_becomePlain_17 : decode cd_Sl_becomePlain 17 = .ok (.iinc 1 1, 3) := dq_at (q := (17, .iinc 1 1, 3)) dm_Sl_becomePlain_0 12 rfl
theorem dc_Sl_becomePlain_20 : decode cd_Sl_becomePlain 20 = .ok (.goto (-18), 3) := dq_at (q := (20, .goto (-18), 3)) dm_Sl_becomePlain_0 13 rfl
theorem dc_Sl_becomePlain_23 : decode cd_Sl_becomePlain 23 = .ok (.aload_n 0, 1) := dq_at (q := (23, .aload_n 0, 1)) dm_Sl_becomePlain_0 14 rfl
theorem dc_Sl_becomePlain_24 : decode cd_Sl_becomePlain 24 = .ok (.iconst 0, 1) := dq_at (q := (24, .iconst 0, 1)) dm_Sl_becomePlain_0 15 rfl
theorem dc_Sl_becomePlain_25 : decode cd_Sl_becomePlain 25 = .ok (.putfield 24, 3) := dq_at (q := (25, .putfield 24, 3)) dm_Sl_becomePlain_0 16 rfl
theorem dc_Sl_becomePlain_28 : decode cd_Sl_becomePlain 28 = .ok (.return_, 1) := dq_at (q := (28, .return_, 1)) dm_Sl_becomePlain_0 17 rfl
def dl_Sl_become_0 : List (Nat × Instr × Nat) := [(0, .aload_n 1, 1), (1, .iconst 0, 1), (2, .aload_n 0, 1), (3, .getfield 9, 3), (6, .iconst 0, 1), (7, .bipush 6, 2), (9, .invokestatic 28, 3), (12, .aload_n 0, 1), (13, .iconst 0, 1), (14, .putfield 24, 3), (17, .return_, 1)]
theorem dm_Sl_become_0 : dl_Sl_become_0.all (fun q => decide (decode cd_Sl_become q.1 = .ok (q.2.1, q.2.2))) = true := by decide +kernel
theorem dc_Sl_become_0 : decode cd_Sl_become 0 = .ok (.aload_n 1, 1) := dq_at (q := (0, .aload_n 1, 1)) dm_Sl_become_0 0 rfl
theorem dc_Sl_become_1 : decode cd_Sl_become 1 = .ok (.iconst 0, 1) := dq_at (q := (1, .iconst 0, 1)) dm_Sl_become_0 1 rfl
theorem dc_Sl_become_2 : decode cd_Sl_become 2 = .ok (.aload_n 0, 1) := dq_at (q := (2, .aload_n 0, 1)) dm_Sl_become_0 2 rfl
theorem dc_Sl_become_3 : decode cd_Sl_become 3 = .ok (.getfield 9, 3) := dq_at (q := (3, .getfield 9, 3)) dm_Sl_become_0 3 rfl
theorem dc_Sl_become_6 : decode cd_Sl_become 6 = .ok (.iconst 0, 1) := dq_at (q := (6, .iconst 0, 1)) dm_Sl_become_0 4 rfl
theorem dc_Sl_become_7 : decode cd_Sl_become 7 = .ok (.bipush 6, 2) := dq_at (q := (7, .bipush 6, 2)) dm_Sl_become_0 5 rfl
theorem dc_Sl_become_9 : decode cd_Sl_become 9 = .ok (.invokestatic 28, 3) := dq_at (q := (9, .invokestatic 28, 3)) dm_Sl_become_0 6 rfl
theorem dc_Sl_become_12 : decode cd_Sl_become 12 = .ok (.aload_n 0, 1) := dq_at (q := (12, .aload_n 0, 1)) dm_Sl_become_0 7 rfl
theorem dc_Sl_become_13 : decode cd_Sl_become 13 = .ok (.iconst 0, 1) := dq_at (q := (13, .iconst 0, 1)) dm_Sl_become_0 8 rfl
theorem dc_Sl_become_14 : decode cd_Sl_become 14 = .ok (.putfield 24, 3) := dq_at (q := (14, .putfield 24, 3)) dm_Sl_become_0 9 rfl
theorem dc_Sl_become_17 : decode cd_Sl_become 17 = .ok (.return_, 1) := dq_at (q := (17, .return_, 1)) dm_Sl_become_0 10 rfl
def dl_Sl_turnAndKeep_0 : List (Nat × Instr × Nat) := [(0, .aload_n 0, 1), (1, .getfield 9, 3), (4, .iload_n 1, 1), (5, .iload_n 2, 1), (6, .invokestatic 34, 3), (9, .aload_n 0, 1), (10, .getfield 24, 3), (13, .bipush 8, 2), (15, .if_icmp .ne 43, 3), (18, .aload_n 0, 1), (19, .getfield 15, 3), (22, .iconst 1, 1), (23, .aload_n 0, 1), (24, .getfield 15, 3), (27, .iconst 0, 1), (28, .bipush 7, 2), (30, .invokestatic 28, 3), (33, .aload_n 0, 1), (34, .getfield 18, 3), (37, .iconst 1, 1), (38, .aload_n 0, 1), (39, .getfield 18, 3), (42, .iconst 0, 1), (43, .bipush 7, 2), (45, .invokestatic 28, 3), (48, .aload_n 0, 1), (49, .dup, 1), (50, .getfield 24, 3), (53, .iconst 1, 1), (54, .isub, 1), (55, .putfield 24, 3), (58, .aload_n 0, 1), (59, .getfield 15, 3), (62, .aload_n 0, 1), (63, .getfield 24, 3), (66, .iload_n 1, 1), (67, .iastore, 1), (68, .aload_n 0, 1), (69, .getfield 18, 3), (72, .aload_n 0, 1), (73, .getfield 24, 3), (76, .iload_n 2, 1), (77, .iastore, 1), (78, .aload_n 0, 1), (79, .dup, 1), (80, .getfield 24, 3), (83, .iconst 1, 1), (84, .iadd, 1), (85, .putfield 24, 3), (88, .return_, 1)]
theorem dm_Sl_turnAndKeep_0 : dl_Sl_turnAndKeep_0.all (fun q => decide (decode cd_Sl_turnAndKeep q.1 = .ok (q.2.1, q.2.2))) = true := by decide +kernel
theorem dc_Sl_turnAndKeep_0 : decode cd_Sl_turnAndKeep 0 = .ok (.aload_n 0, 1) := dq_at (q := (0, .aload_n 0, 1)) dm_Sl_turnAndKeep_0 0 rfl
theorem dc_Sl_turnAndKeep_1 : decode cd_Sl_turnAndKeep 1 = .ok (.getfield 9, 3) := dq_at (q := (1, .getfield 9, 3)) dm_Sl_turnAndKeep_0 1 rfl
theorem dc_Sl_turnAndKeep_4 : decode cd_Sl_turnAndKeep 4 = .ok (.iload_n 1, 1) := dq_at (q := (4, .iload_n 1, 1)) dm_Sl_turnAndKeep_0 2 rfl
theorem dc_Sl_turnAndKeep_5 : decode cd_Sl_turnAndKeep 5 = .ok (.iload_n 2, 1) := dq_at (q := (5, .iload_n 2, 1)) dm_Sl_turnAndKeep_0 3 rfl
theorem dc_Sl_turnAndKeep_6 : decode cd_Sl_turnAndKeep 6 = .ok (.invokestatic 34, 3) := dq_at (q := (6, .invokestatic 34, 3)) dm_Sl_turnAndKeep_0 4 rfl
theorem dc_Sl_turnAndKeep_9 : decode cd_Sl_turnAndKeep 9 = .ok (.aload_n 0, 1) := dq_at (q := (9, .aload_n 0, 1)) dm_Sl_turnAndKeep_0 5 rfl
theorem dc_Sl_turnAndKeep_10 : decode cd_Sl_turnAndKeep 10 = .ok (.getfield 24, 3) := dq_at (q := (10, .getfield 24, 3)) dm_Sl_turnAndKeep_0 6 rfl
theorem dc_Sl_turnAndKeep_13 : decode cd_Sl_turnAndKeep 13 = .ok (.bipush 8, 2) := dq_at (q := (13, .bipush 8, 2)) dm_Sl_turnAndKeep_0 7 rfl
theorem dc_Sl_turnAndKeep_15 : decode cd_Sl_turnAndKeep 15 = .ok (.if_icmp .ne 43, 3) := dq_at (q := (15, .if_icmp .ne 43, 3)) dm_Sl_turnAndKeep_0 8 rfl
theorem dc_Sl_turnAndKeep_18 : decode cd_Sl_turnAndKeep 18 = .ok (.aload_n 0, 1) := dq_at (q := (18, .aload_n 0, 1)) dm_Sl_turnAndKeep_0 9 rfl
theorem dc_Sl_turnAndKeep_19 : decode cd_Sl_turnAndKeep 19 = .ok (.getfield 15, 3) := dq_at (q := (19, .getfield 15, 3)) dm_Sl_turnAndKeep_0 10 rfl
theorem dc_Sl_turnAndKeep_22 : decode cd_Sl_turnAndKeep 22 = .ok (.iconst 1, 1) := dq_at (q := (22, .iconst 1, 1)) dm_Sl_turnAndKeep_0 11 rfl
theorem dc_Sl_turnAndKeep_23 : decode cd_Sl_turnAndKeep 23 = .ok (.aload_n 0, 1) := dq_at (q := (23, .aload_n 0, 1)) dm_Sl_turnAndKeep_0 12 rfl
theorem dc_Sl_turnAndKeep_24 : decode cd_Sl_turnAndKeep 24 = .ok (.getfield 15, 3) := dq_at (q := (24, .getfield 15, 3)) dm_Sl_turnAndKeep_0 13 rfl
theorem dc_Sl_turnAndKeep_27 : decode cd_Sl_turnAndKeep 27 = .ok (.iconst 0, 1) := dq_at (q := (27, .iconst 0, 1)) dm_Sl_turnAndKeep_0 14 rfl
theorem dc_Sl_turnAndKeep_28 : decode cd_Sl_turnAndKeep 28 = .ok (.bipush 7, 2) := dq_at (q := (28, .bipush 7, 2)) dm_Sl_turnAndKeep_0 15 rfl
theorem dc_Sl_turnAndKeep_30 : decode cd_Sl_turnAndKeep 30 = .ok (.invokestatic 28, 3) := dq_at (q := (30, .invokestatic 28, 3)) dm_Sl_turnAndKeep_0 16 rfl
theorem dc_Sl_turnAndKeep_33 : decode cd_Sl_turnAndKeep 33 = .ok (.aload_n 0, 1) := dq_at (q := (33, .aload_n 0, 1)) dm_Sl_turnAndKeep_0 17 rfl
theorem dc_Sl_turnAndKeep_34 : decode cd_Sl_turnAndKeep 34 = .ok (.getfield 18, 3) := dq_at (q := (34, .getfield 18, 3)) dm_Sl_turnAndKeep_0 18 rfl
theorem dc_Sl_turnAndKeep_37 : decode cd_Sl_turnAndKeep 37 = .ok (.iconst 1, 1) := dq_at (q := (37, .iconst 1, 1)) dm_Sl_turnAndKeep_0 19 rfl
theorem dc_Sl_turnAndKeep_38 : decode cd_Sl_turnAndKeep 38 = .ok (.aload_n 0, 1) := dq_at (q := (38, .aload_n 0, 1)) dm_Sl_turnAndKeep_0 20 rfl
theorem dc_Sl_turnAndKeep_39 : decode cd_Sl_turnAndKeep 39 = .ok (.getfield 18, 3) := dq_at (q := (39, .getfield 18, 3)) dm_Sl_turnAndKeep_0 21 rfl
theorem dc_Sl_turnAndKeep_42 : decode cd_Sl_turnAndKeep 42 = .ok (.iconst 0, 1) := dq_at (q := (42, .iconst 0, 1)) dm_Sl_turnAndKeep_0 22 rfl
theorem dc_Sl_turnAndKeep_43 : decode cd_Sl_turnAndKeep 43 = .ok (.bipush 7, 2) := dq_at (q := (43, .bipush 7, 2)) dm_Sl_turnAndKeep_0 23 rfl
theorem dc_Sl_turnAndKeep_45 : decode cd_Sl_turnAndKeep 45 = .ok (.invokestatic 28, 3) := dq_at (q := (45, .invokestatic 28, 3)) dm_Sl_turnAndKeep_0 24 rfl
theorem dc_Sl_turnAndKeep_48 : decode cd_Sl_turnAndKeep 48 = .ok (.aload_n 0, 1) := dq_at (q := (48, .aload_n 0, 1)) dm_Sl_turnAndKeep_0 25 rfl
theorem dc_Sl_turnAndKeep_49 : decode cd_Sl_turnAndKeep 49 = .ok (.dup, 1) := dq_at (q := (49, .dup, 1)) dm_Sl_turnAndKeep_0 26 rfl
theorem dc_Sl_turnAndKeep_50 : decode cd_Sl_turnAndKeep 50 = .ok (.getfield 24, 3) := dq_at (q := (50, .getfield 24, 3)) dm_Sl_turnAndKeep_0 27 rfl
theorem dc_Sl_turnAndKeep_53 : decode cd_Sl_turnAndKeep 53 = .ok (.iconst 1, 1) := dq_at (q := (53, .iconst 1, 1)) dm_Sl_turnAndKeep_0 28 rfl
theorem dc_Sl_turnAndKeep_54 : decode cd_Sl_turnAndKeep 54 = .ok (.isub, 1) := dq_at (q := (54, .isub, 1)) dm_Sl_turnAndKeep_0 29 rfl
theorem dc_Sl_turnAndKeep_55 : decode cd_Sl_turnAndKeep 55 = .ok (.putfield 24, 3) := dq_at (q := (55, .putfield 24, 3)) dm_Sl_turnAndKeep_0 30 rfl
theorem dc_Sl_turnAndKeep_58 : decode cd_Sl_turnAndKeep 58 = .ok (.aload_n 0, 1) := dq_at (q := (58, .aload_n 0, 1)) dm_Sl_turnAndKeep_0 31 rfl
theorem dc_Sl_turnAndKeep_59 : decode cd_Sl_turnAndKeep 59 = .ok (.getfield 15, 3) := dq_at (q := (59, .getfield 15, 3)) dm_Sl_turnAndKeep_0 32 rfl
theorem dc_Sl_turnAndKeep_62 : decode cd_Sl_turnAndKeep 62 = .ok (.aload_n 0, 1) := dq_at (q := (62, .aload_n 0, 1)) dm_Sl_turnAndKeep_0 33 rfl
theorem dc_Sl_turnAndKeep_63 : decode cd_Sl_turnAndKeep 63 = .ok (.getfield 24, 3) := dq_at (q := (63, .getfield 24, 3)) dm_Sl_turnAndKeep_0 34 rfl
theorem dc_Sl_turnAndKeep_66 : decode cd_Sl_turnAndKeep 66 = .ok (.iload_n 1, 1) := dq_at (q := (66, .iload_n 1, 1)) dm_Sl_turnAndKeep_0 35 rfl
theorem dc_Sl_turnAndKeep_67 : decode cd_Sl_turnAndKeep 67 = .ok (.iastore, 1) := dq_at (q := (67, .iastore, 1)) dm_Sl_turnAndKeep_0 36 rfl
theorem dc_Sl_turnAndKeep_68 : decode cd_Sl_turnAndKeep 68 = .ok (.aload_n 0, 1) := dq_at (q := (68, .aload_n 0, 1)) dm_Sl_turnAndKeep_0 37 rfl
theorem dc_Sl_turnAndKeep_69 : decode cd_Sl_turnAndKeep 69 = .ok (.getfield 18, 3) := dq_at (q := (69, .getfield 18, 3)) dm_Sl_turnAndKeep_0 38 rfl
theorem dc_Sl_turnAndKeep_72 : decode cd_Sl_turnAndKeep 72 = .ok (.aload_n 0, 1) := dq_at (q := (72, .aload_n 0, 1)) dm_Sl_turnAndKeep_0 39 rfl
theorem dc_Sl_turnAndKeep_73 : decode cd_Sl_turnAndKeep 73 = .ok (.getfield 24, 3) := dq_at (q := (73, .getfield 24, 3)) dm_Sl_turnAndKeep_0 40 rfl
theorem dc_Sl_turnAndKeep_76 : decode cd_Sl_turnAndKeep 76 = .ok (.iload_n 2, 1) := dq_at (q := (76, .iload_n 2, 1)) dm_Sl_turnAndKeep_0 41 rfl
theorem dc_Sl_turnAndKeep_77 : decode cd_Sl_turnAndKeep 77 = .ok (.iastore, 1) := dq_at (q := (77, .iastore, 1)) dm_Sl_turnAndKeep_0 42 rfl
theorem dc_Sl_turnAndKeep_78 : decode cd_Sl_turnAndKeep 78 = .ok (.aload_n 0, 1) := dq_at (q := (78, .aload_n 0, 1)) dm_Sl_turnAndKeep_0 43 rfl
theorem dc_Sl_turnAndKeep_79 : decode cd_Sl_turnAndKeep 79 = .ok (.dup, 1) := dq_at (q := (79, .dup, 1)) dm_Sl_turnAndKeep_0 44 rfl
theorem dc_Sl_turnAndKeep_80 : decode cd_Sl_turnAndKeep 80 = .ok (.getfield 24, 3) := dq_at (q := (80, .getfield 24, 3)) dm_Sl_turnAndKeep_0 45 rfl
theorem dc_Sl_turnAndKeep_83 : decode cd_Sl_turnAndKeep 83 = .ok (.iconst 1, 1) := dq_at (q := (83, .iconst 1, 1)) dm_Sl_turnAndKeep_0 46 rfl
theorem dc_Sl_turnAndKeep_84 : decode cd_Sl_turnAndKeep 84 = .ok (.iadd, 1) := dq_at (q := (84, .iadd, 1)) dm_Sl_turnAndKeep_0 47 rfl
theorem dc_Sl_turnAndKeep_85 : decode cd_Sl_turnAndKeep 85 = .ok (.putfield 24, 3) := dq_at (q := (85, .putfield 24, 3)) dm_Sl_turnAndKeep_0 48 rfl
theorem dc_Sl_turnAndKeep_88 : decode cd_Sl_turnAndKeep 88 = .ok (.return_, 1) := dq_at (q := (88, .return_, 1)) dm_Sl_turnAndKeep_0 49 rfl
def dl_Sl_turnBack_0 : List (Nat × Instr × Nat) := [(0, .aload_n 0, 1), (1, .getfield 24, 3), (4, .ifCond .ne 5, 3), (7, .iconst 0, 1), (8, .ireturn, 1), (9, .aload_n 0, 1), (10, .dup, 1), (11, .getfield 24, 3), (14, .iconst 1, 1), (15, .isub, 1), (16, .putfield 24, 3), (19, .aload_n 0, 1), (20, .getfield 9, 3), (23, .aload_n 0, 1), (24, .getfield 15, 3), (27, .aload_n 0, 1), (28, .getfield 24, 3), (31, .iaload, 1), (32, .aload_n 0, 1), (33, .getfield 18, 3), (36, .aload_n 0, 1), (37, .getfield 24, 3), (40, .iaload, 1), (41, .invokestatic 34, 3), (44, .iconst 1, 1), (45, .ireturn, 1)]
theorem dm_Sl_turnBack_0 : dl_Sl_turnBack_0.all (fun q => decide (decode cd_Sl_turnBack q.1 = .ok (q.2.1, q.2.2))) = true := by decide +kernel
theorem dc_Sl_turnBack_0 : decode cd_Sl_turnBack 0 = .ok (.aload_n 0, 1) := dq_at (q := (0, .aload_n 0, 1)) dm_Sl_turnBack_0 0 rfl
theorem dc_Sl_turnBack_1 : decode cd_Sl_turnBack 1 = .ok (.getfield 24, 3) := dq_at (q := (1, .getfield 24, 3)) dm_Sl_turnBack_0 1 rfl
theorem dc_Sl_turnBack_4 : decode cd_Sl_turnBack 4 = .ok (.ifCond .ne 5, 3) := dq_at (q := (4, .ifCond .ne 5, 3)) dm_Sl_turnBack_0 2 rfl
theorem dc_Sl_turnBack_7 : decode cd_Sl_turnBack 7 = .ok (.iconst 0, 1) := dq_at (q := (7, .iconst 0, 1)) dm_Sl_turnBack_0 3 rfl
theorem dc_Sl_turnBack_8 : decode cd_Sl_turnBack 8 = .ok (.ireturn, 1) := dq_at (q := (8, .ireturn, 1)) dm_Sl_turnBack_0 4 rfl
theorem dc_Sl_turnBack_9 : decode cd_Sl_turnBack 9 = .ok (.aload_n 0, 1) := dq_at (q := (9, .aload_n 0, 1)) dm_Sl_turnBack_0 5 rfl
theorem dc_Sl_turnBack_10 : decode cd_Sl_turnBack 10 = .ok (.dup, 1) := dq_at (q := (10, .dup, 1)) dm_Sl_turnBack_0 6 rfl
theorem dc_Sl_turnBack_11 : decode cd_Sl_turnBack 11 = .ok (.getfield 24, 3) := dq_at (q := (11, .getfield 24, 3)) dm_Sl_turnBack_0 7 rfl
theorem dc_Sl_turnBack_14 : decode cd_Sl_turnBack 14 = .ok (.iconst 1, 1) := dq_at (q := (14, .iconst 1, 1)) dm_Sl_turnBack_0 8 rfl
theorem dc_Sl_turnBack_15 : decode cd_Sl_turnBack 15 = .ok (.isub, 1) := dq_at (q := (15, .isub, 1)) dm_Sl_turnBack_0 9 rfl
theorem dc_Sl_turnBack_16 : decode cd_Sl_turnBack 16 = .ok (.putfield 24, 3) := dq_at (q := (16, .putfield 24, 3)) dm_Sl_turnBack_0 10 rfl
theorem dc_Sl_turnBack_19 : decode cd_Sl_turnBack 19 = .ok (.aload_n 0, 1) := dq_at (q := (19, .aload_n 0, 1)) dm_Sl_turnBack_0 11 rfl
theorem dc_Sl_turnBack_20 : decode cd_Sl_turnBack 20 = .ok (.getfield 9, 3) := dq_at (q := (20, .getfield 9, 3)) dm_Sl_turnBack_0 12 rfl
theorem dc_Sl_turnBack_23 : decode cd_Sl_turnBack 23 = .ok (.aload_n 0, 1) := dq_at (q := (23, .aload_n 0, 1)) dm_Sl_turnBack_0 13 rfl
theorem dc_Sl_turnBack_24 : decode cd_Sl_turnBack 24 = .ok (.getfield 15, 3) := dq_at (q := (24, .getfield 15, 3)) dm_Sl_turnBack_0 14 rfl
theorem dc_Sl_turnBack_27 : decode cd_Sl_turnBack 27 = .ok (.aload_n 0, 1) := dq_at (q := (27, .aload_n 0, 1)) dm_Sl_turnBack_0 15 rfl
theorem dc_Sl_turnBack_28 : decode cd_Sl_turnBack 28 = .ok (.getfield 24, 3) := dq_at (q := (28, .getfield 24, 3)) dm_Sl_turnBack_0 16 rfl
theorem dc_Sl_turnBack_31 : decode cd_Sl_turnBack 31 = .ok (.iaload, 1) := dq_at (q := (31, .iaload, 1)) dm_Sl_turnBack_0 17 rfl
theorem dc_Sl_turnBack_32 : decode cd_Sl_turnBack 32 = .ok (.aload_n 0, 1) := dq_at (q := (32, .aload_n 0, 1)) dm_Sl_turnBack_0 18 rfl
theorem dc_Sl_turnBack_33 : decode cd_Sl_turnBack 33 = .ok (.getfield 18, 3) := dq_at (q := (33, .getfield 18, 3)) dm_Sl_turnBack_0 19 rfl
theorem dc_Sl_turnBack_36 : decode cd_Sl_turnBack 36 = .ok (.aload_n 0, 1) := dq_at (q := (36, .aload_n 0, 1)) dm_Sl_turnBack_0 20 rfl
theorem dc_Sl_turnBack_37 : decode cd_Sl_turnBack 37 = .ok (.getfield 24, 3) := dq_at (q := (37, .getfield 24, 3)) dm_Sl_turnBack_0 21 rfl
theorem dc_Sl_turnBack_40 : decode cd_Sl_turnBack 40 = .ok (.iaload, 1) := dq_at (q := (40, .iaload, 1)) dm_Sl_turnBack_0 22 rfl
theorem dc_Sl_turnBack_41 : decode cd_Sl_turnBack 41 = .ok (.invokestatic 34, 3) := dq_at (q := (41, .invokestatic 34, 3)) dm_Sl_turnBack_0 23 rfl
theorem dc_Sl_turnBack_44 : decode cd_Sl_turnBack 44 = .ok (.iconst 1, 1) := dq_at (q := (44, .iconst 1, 1)) dm_Sl_turnBack_0 24 rfl
theorem dc_Sl_turnBack_45 : decode cd_Sl_turnBack 45 = .ok (.ireturn, 1) := dq_at (q := (45, .ireturn, 1)) dm_Sl_turnBack_0 25 rfl
def dl_Te_init_0 : List (Nat × Instr × Nat) := [(0, .aload_n 0, 1), (1, .invokespecial 3, 3), (4, .aload_n 0, 1), (5, .bipush 24, 2), (7, .newarray .int, 2), (9, .putfield 11, 3), (12, .return_, 1)]
theorem dm_Te_init_0 : dl_Te_init_0.all (fun q => decide (decode cd_Te_init q.1 = .ok (q.2.1, q.2.2))) = true := by decide +kernel
theorem dc_Te_init_0 : decode cd_Te_init 0 = .ok (.aload_n 0, 1) := dq_at (q := (0, .aload_n 0, 1)) dm_Te_init_0 0 rfl
theorem dc_Te_init_1 : decode cd_Te_init 1 = .ok (.invokespecial 3, 3) := dq_at (q := (1, .invokespecial 3, 3)) dm_Te_init_0 1 rfl
theorem dc_Te_init_4 : decode cd_Te_init 4 = .ok (.aload_n 0, 1) := dq_at (q := (4, .aload_n 0, 1)) dm_Te_init_0 2 rfl
theorem dc_Te_init_5 : decode cd_Te_init 5 = .ok (.bipush 24, 2) := dq_at (q := (5, .bipush 24, 2)) dm_Te_init_0 3 rfl
theorem dc_Te_init_7 : decode cd_Te_init 7 = .ok (.newarray .int, 2) := dq_at (q := (7, .newarray .int, 2)) dm_Te_init_0 4 rfl
theorem dc_Te_init_9 : decode cd_Te_init 9 = .ok (.putfield 11, 3) := dq_at (q := (9, .putfield 11, 3)) dm_Te_init_0 5 rfl
theorem dc_Te_init_12 : decode cd_Te_init 12 = .ok (.return_, 1) := dq_at (q := (12, .return_, 1)) dm_Te_init_0 6 rfl
def dl_Te_add_0 : List (Nat × Instr × Nat) := [(0, .iconst 0, 1), (1, .istore_n 3, 1), (2, .iconst 0, 1), (3, .istore 4, 2), (5, .iload 4, 2), (7, .bipush 8, 2), (9, .if_icmp .ge 21, 3), (12, .lload_n 1, 1), (13, .iload 4, 2), (15, .invokestatic 15, 3), (18, .ifCond .eq 6, 3), (21, .iinc 3 1, 3), (24, .iinc 4 1, 3), (27, .goto (-22), 3), (30, .aload_n 0, 1), (31, .getfield 19, 3), (34, .iload_n 3, 1), (35, .iadd, 1), (36, .bipush 24, 2), (38, .if_icmp .le 5, 3), (41, .iconst (-1), 1), (42, .ireturn, 1), (43, .iconst 0, 1), (44, .istore 4, 2), (46, .iload 4, 2), (48, .bipush 8, 2), (50, .if_icmp .ge 43, 3), (53, .lload_n 1, 1), (54, .iload 4, 2), (56, .invokestatic 15, 3), (59, .istore 5, 2), (61, .iload 5, 2), (63, .ifCond .eq 24, 3), (66, .aload_n 0, 1), (67, .getfield 11, 3), (70, .aload_n 0, 1), (71, .getfield 19, 3), (74, .iload 5, 2), (76, .iastore, 1), (77, .aload_n 0, 1), (78, .dup, 1), (79, .getfield 19, 3), (82, .iconst 1, 1), (83, .iadd, 1), (84, .putfield 19, 3), (87, .iinc 4 1, 3), (90, .goto (-44), 3), (93, .aload_n 0, 1), (94, .getfield 19, 3), (97, .ireturn, 1)]
theorem dm_Te_add_0 : dl_Te_add_0.all (fun q => decide (decode cd_Te_add q.1 = .ok (q.2.1, q.2.2))) = true := by decide +kernel
theorem dc_Te_add_0 : decode cd_Te_add 0 = .ok (.iconst 0, 1) := dq_at (q := (0, .iconst 0, 1)) dm_Te_add_0 0 rfl
theorem dc_Te_add_1 : decode cd_Te_add 1 = .ok (.istore_n 3, 1) := dq_at (q := (1, .istore_n 3, 1)) dm_Te_add_0 1 rfl
theorem dc_Te_add_2 : decode cd_Te_add 2 = .ok (.iconst 0, 1) := dq_at (q := (2, .iconst 0, 1)) dm_Te_add_0 2 rfl
theorem dc_Te_add_3 : decode cd_Te_add 3 = .ok (.istore 4, 2) := dq_at (q := (3, .istore 4, 2)) dm_Te_add_0 3 rfl
theorem dc_Te_add_5 : decode cd_Te_add 5 = .ok (.iload 4, 2) := dq_at (q := (5, .iload 4, 2)) dm_Te_add_0 4 rfl
theorem dc_Te_add_7 : decode cd_Te_add 7 = .ok (.bipush 8, 2) := dq_at (q := (7, .bipush 8, 2)) dm_Te_add_0 5 rfl
theorem dc_Te_add_9 : decode cd_Te_add 9 = .ok (.if_icmp .ge 21, 3) := dq_at (q := (9, .if_icmp .ge 21, 3)) dm_Te_add_0 6 rfl
theorem dc_Te_add_12 : decode cd_Te_add 12 = .ok (.lload_n 1, 1) := dq_at (q := (12, .lload_n 1, 1)) dm_Te_add_0 7 rfl
theorem dc_Te_add_13 : decode cd_Te_add 13 = .ok (.iload 4, 2) := dq_at (q := (13, .iload 4, 2)) dm_Te_add_0 8 rfl
theorem dc_Te_add_15 : decode cd_Te_add 15 = .ok (.invokestatic 15, 3) := dq_at (q := (15, .invokestatic 15, 3)) dm_Te_add_0 9 rfl
theorem dc_Te_add_18 : decode cd_Te_add 18 = .ok (.ifCond .eq 6, 3) := dq_at (q := (18, .ifCond .eq 6, 3)) dm_Te_add_0 10 rfl
theorem dc_Te_add_21 : decode cd_Te_add 21 = .ok (.iinc 3 1, 3) := dq_at (q := (21, .iinc 3 1, 3)) dm_Te_add_0 11 rfl
theorem dc_Te_add_24 : decode cd_Te_add 24 = .ok (.iinc 4 1, 3) := dq_at (q := (24, .iinc 4 1, 3)) dm_Te_add_0 12 rfl
theorem dc_Te_add_27 : decode cd_Te_add 27 = .ok (.goto (-22), 3) := dq_at (q := (27, .goto (-22), 3)) dm_Te_add_0 13 rfl
theorem dc_Te_add_30 : decode cd_Te_add 30 = .ok (.aload_n 0, 1) := dq_at (q := (30, .aload_n 0, 1)) dm_Te_add_0 14 rfl
theorem dc_Te_add_31 : decode cd_Te_add 31 = .ok (.getfield 19, 3) := dq_at (q := (31, .getfield 19, 3)) dm_Te_add_0 15 rfl
theorem dc_Te_add_34 : decode cd_Te_add 34 = .ok (.iload_n 3, 1) := dq_at (q := (34, .iload_n 3, 1)) dm_Te_add_0 16 rfl
theorem dc_Te_add_35 : decode cd_Te_add 35 = .ok (.iadd, 1) := dq_at (q := (35, .iadd, 1)) dm_Te_add_0 17 rfl
theorem dc_Te_add_36 : decode cd_Te_add 36 = .ok (.bipush 24, 2) := dq_at (q := (36, .bipush 24, 2)) dm_Te_add_0 18 rfl
theorem dc_Te_add_38 : decode cd_Te_add 38 = .ok (.if_icmp .le 5, 3) := dq_at (q := (38, .if_icmp .le 5, 3)) dm_Te_add_0 19 rfl
theorem dc_Te_add_41 : decode cd_Te_add 41 = .ok (.iconst (-1), 1) := dq_at (q := (41, .iconst (-1), 1)) dm_Te_add_0 20 rfl
theorem dc_Te_add_42 : decode cd_Te_add 42 = .ok (.ireturn, 1) := dq_at (q := (42, .ireturn, 1)) dm_Te_add_0 21 rfl
theorem dc_Te_add_43 : decode cd_Te_add 43 = .ok (.iconst 0, 1) := dq_at (q := (43, .iconst 0, 1)) dm_Te_add_0 22 rfl
theorem dc_Te_add_44 : decode cd_Te_add 44 = .ok (.istore 4, 2) := dq_at (q := (44, .istore 4, 2)) dm_Te_add_0 23 rfl
theorem dc_Te_add_46 : decode cd_Te_add 46 = .ok (.iload 4, 2) := dq_at (q := (46, .iload 4, 2)) dm_Te_add_0 24 rfl
theorem dc_Te_add_48 : decode cd_Te_add 48 = .ok (.bipush 8, 2) := dq_at (q := (48, .bipush 8, 2)) dm_Te_add_0 25 rfl
theorem dc_Te_add_50 : decode cd_Te_add 50 = .ok (.if_icmp .ge 43, 3) := dq_at (q := (50, .if_icmp .ge 43, 3)) dm_Te_add_0 26 rfl
theorem dc_Te_add_53 : decode cd_Te_add 53 = .ok (.lload_n 1, 1) := dq_at (q := (53, .lload_n 1, 1)) dm_Te_add_0 27 rfl
theorem dc_Te_add_54 : decode cd_Te_add 54 = .ok (.iload 4, 2) := dq_at (q := (54, .iload 4, 2)) dm_Te_add_0 28 rfl
theorem dc_Te_add_56 : decode cd_Te_add 56 = .ok (.invokestatic 15, 3) := dq_at (q := (56, .invokestatic 15, 3)) dm_Te_add_0 29 rfl
theorem dc_Te_add_59 : decode cd_Te_add 59 = .ok (.istore 5, 2) := dq_at (q := (59, .istore 5, 2)) dm_Te_add_0 30 rfl
theorem dc_Te_add_61 : decode cd_Te_add 61 = .ok (.iload 5, 2) := dq_at (q := (61, .iload 5, 2)) dm_Te_add_0 31 rfl
theorem dc_Te_add_63 : decode cd_Te_add 63 = .ok (.ifCond .eq 24, 3) := dq_at (q := (63, .ifCond .eq 24, 3)) dm_Te_add_0 32 rfl
theorem dc_Te_add_66 : decode cd_Te_add 66 = .ok (.aload_n 0, 1) := dq_at (q := (66, .aload_n 0, 1)) dm_Te_add_0 33 rfl
theorem dc_Te_add_67 : decode cd_Te_add 67 = .ok (.getfield 11, 3) := dq_at (q := (67, .getfield 11, 3)) dm_Te_add_0 34 rfl
theorem dc_Te_add_70 : decode cd_Te_add 70 = .ok (.aload_n 0, 1) := dq_at (q := (70, .aload_n 0, 1)) dm_Te_add_0 35 rfl
theorem dc_Te_add_71 : decode cd_Te_add 71 = .ok (.getfield 19, 3) := dq_at (q := (71, .getfield 19, 3)) dm_Te_add_0 36 rfl
theorem dc_Te_add_74 : decode cd_Te_add 74 = .ok (.iload 5, 2) := dq_at (q := (74, .iload 5, 2)) dm_Te_add_0 37 rfl
theorem dc_Te_add_76 : decode cd_Te_add 76 = .ok (.iastore, 1) := dq_at (q := (76, .iastore, 1)) dm_Te_add_0 38 rfl
theorem dc_Te_add_77 : decode cd_Te_add 77 = .ok (.aload_n 0, 1) := dq_at (q := (77, .aload_n 0, 1)) dm_Te_add_0 39 rfl
theorem dc_Te_add_78 : decode cd_Te_add 78 = .ok (.dup, 1) := dq_at (q := (78, .dup, 1)) dm_Te_add_0 40 rfl
theorem dc_Te_add_79 : decode cd_Te_add 79 = .ok (.getfield 19, 3) := dq_at (q := (79, .getfield 19, 3)) dm_Te_add_0 41 rfl
theorem dc_Te_add_82 : decode cd_Te_add 82 = .ok (.iconst 1, 1) := dq_at (q := (82, .iconst 1, 1)) dm_Te_add_0 42 rfl
theorem dc_Te_add_83 : decode cd_Te_add 83 = .ok (.iadd, 1) := dq_at (q := (83, .iadd, 1)) dm_Te_add_0 43 rfl
theorem dc_Te_add_84 : decode cd_Te_add 84 = .ok (.putfield 19, 3) := dq_at (q := (84, .putfield 19, 3)) dm_Te_add_0 44 rfl
theorem dc_Te_add_87 : decode cd_Te_add 87 = .ok (.iinc 4 1, 3) := dq_at (q := (87, .iinc 4 1, 3)) dm_Te_add_0 45 rfl
theorem dc_Te_add_90 : decode cd_Te_add 90 = .ok (.goto (-44), 3) := dq_at (q := (90, .goto (-44), 3)) dm_Te_add_0 46 rfl
theorem dc_Te_add_93 : decode cd_Te_add 93 = .ok (.aload_n 0, 1) := dq_at (q := (93, .aload_n 0, 1)) dm_Te_add_0 47 rfl
theorem dc_Te_add_94 : decode cd_Te_add 94 = .ok (.getfield 19, 3) := dq_at (q := (94, .getfield 19, 3)) dm_Te_add_0 48 rfl
theorem dc_Te_add_97 : decode cd_Te_add 97 = .ok (.ireturn, 1) := dq_at (q := (97, .ireturn, 1)) dm_Te_add_0 49 rfl
