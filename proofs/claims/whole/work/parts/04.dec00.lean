theorem dc_De_init_0 : decode cd_De_init 0 = .ok (.aload_n 0, 1) := by decide +kernel
theorem dc_De_init_1 : decode cd_De_init 1 = .ok (.invokespecial 3, 3) := by decide +kernel
theorem dc_De_init_4 : decode cd_De_init 4 = .ok (.aload_n 0, 1) := by decide +kernel
theorem dc_De_init_5 : decode cd_De_init 5 = .ok (.iconst 4, 1) := by decide +kernel
theorem dc_De_init_6 : decode cd_De_init 6 = .ok (.putfield 9, 3) := by decide +kernel
theorem dc_De_init_9 : decode cd_De_init 9 = .ok (.aload_n 0, 1) := by decide +kernel
theorem dc_De_init_10 : decode cd_De_init 10 = .ok (.iconst 5, 1) := by decide +kernel
theorem dc_De_init_11 : decode cd_De_init 11 = .ok (.anewarray 13, 3) := by decide +kernel
theorem dc_De_init_14 : decode cd_De_init 14 = .ok (.putfield 15, 3) := by decide +kernel
theorem dc_De_init_17 : decode cd_De_init 17 = .ok (.iconst 0, 1) := by decide +kernel
theorem dc_De_init_18 : decode cd_De_init 18 = .ok (.istore_n 1, 1) := by decide +kernel
theorem dc_De_init_19 : decode cd_De_init 19 = .ok (.iload_n 1, 1) := by decide +kernel
theorem dc_De_init_20 : decode cd_De_init 20 = .ok (.iconst 5, 1) := by decide +kernel
theorem dc_De_init_21 : decode cd_De_init 21 = .ok (.if_icmp .ge 22, 3) := by decide +kernel
theorem dc_De_init_24 : decode cd_De_init 24 = .ok (.aload_n 0, 1) := by decide +kernel
theorem dc_De_init_25 : decode cd_De_init 25 = .ok (.getfield 15, 3) := by decide +kernel
theorem dc_De_init_28 : decode cd_De_init 28 = .ok (.iload_n 1, 1) := by decide +kernel
theorem dc_De_init_29 : decode cd_De_init 29 = .ok (.new 13, 3) := by decide +kernel
theorem dc_De_init_32 : decode cd_De_init 32 = .ok (.dup, 1) := by decide +kernel
theorem dc_De_init_33 : decode cd_De_init 33 = .ok (.invokespecial 19, 3) := by decide +kernel
theorem dc_De_init_36 : decode cd_De_init 36 = .ok (.aastore, 1) := by decide +kernel
theorem dc_De_init_37 : decode cd_De_init 37 = .ok (.iinc 1 1, 3) := by decide +kernel
theorem dc_De_init_40 : decode cd_De_init 40 = .ok (.goto (-21), 3) := by decide +kernel
theorem dc_De_init_43 : decode cd_De_init 43 = .ok (.aload_n 0, 1) := by decide +kernel
theorem dc_De_init_44 : decode cd_De_init 44 = .ok (.new 20, 3) := by decide +kernel
theorem dc_De_init_47 : decode cd_De_init 47 = .ok (.dup, 1) := by decide +kernel
theorem dc_De_init_48 : decode cd_De_init 48 = .ok (.invokespecial 22, 3) := by decide +kernel
theorem dc_De_init_51 : decode cd_De_init 51 = .ok (.putfield 23, 3) := by decide +kernel
theorem dc_De_init_54 : decode cd_De_init 54 = .ok (.aload_n 0, 1) := by decide +kernel
theorem dc_De_init_55 : decode cd_De_init 55 = .ok (.new 27, 3) := by decide +kernel
theorem dc_De_init_58 : decode cd_De_init 58 = .ok (.dup, 1) := by decide +kernel
theorem dc_De_init_59 : decode cd_De_init 59 = .ok (.invokespecial 29, 3) := by decide +kernel
theorem dc_De_init_62 : decode cd_De_init 62 = .ok (.putfield 30, 3) := by decide +kernel
theorem dc_De_init_65 : decode cd_De_init 65 = .ok (.aload_n 0, 1) := by decide +kernel
theorem dc_De_init_66 : decode cd_De_init 66 = .ok (.iconst 5, 1) := by decide +kernel
theorem dc_De_init_67 : decode cd_De_init 67 = .ok (.anewarray 34, 3) := by decide +kernel
theorem dc_De_init_70 : decode cd_De_init 70 = .ok (.putfield 36, 3) := by decide +kernel
theorem dc_De_init_73 : decode cd_De_init 73 = .ok (.aload_n 0, 1) := by decide +kernel
theorem dc_De_init_74 : decode cd_De_init 74 = .ok (.bipush 7, 2) := by decide +kernel
theorem dc_De_init_76 : decode cd_De_init 76 = .ok (.newarray .int, 2) := by decide +kernel
theorem dc_De_init_78 : decode cd_De_init 78 = .ok (.putfield 40, 3) := by decide +kernel
theorem dc_De_init_81 : decode cd_De_init 81 = .ok (.aload_n 0, 1) := by decide +kernel
theorem dc_De_init_82 : decode cd_De_init 82 = .ok (.iconst (-1), 1) := by decide +kernel
theorem dc_De_init_83 : decode cd_De_init 83 = .ok (.putfield 44, 3) := by decide +kernel
theorem dc_De_init_86 : decode cd_De_init 86 = .ok (.aload_n 0, 1) := by decide +kernel
theorem dc_De_init_87 : decode cd_De_init 87 = .ok (.bipush 7, 2) := by decide +kernel
theorem dc_De_init_89 : decode cd_De_init 89 = .ok (.newarray .int, 2) := by decide +kernel
theorem dc_De_init_91 : decode cd_De_init 91 = .ok (.putfield 47, 3) := by decide +kernel
theorem dc_De_init_94 : decode cd_De_init 94 = .ok (.aload_n 0, 1) := by decide +kernel
theorem dc_De_init_95 : decode cd_De_init 95 = .ok (.bipush 6, 2) := by decide +kernel
theorem dc_De_init_97 : decode cd_De_init 97 = .ok (.newarray .int, 2) := by decide +kernel
theorem dc_De_init_99 : decode cd_De_init 99 = .ok (.putfield 50, 3) := by decide +kernel
theorem dc_De_init_102 : decode cd_De_init 102 = .ok (.aload_n 0, 1) := by decide +kernel
theorem dc_De_init_103 : decode cd_De_init 103 = .ok (.bipush 6, 2) := by decide +kernel
theorem dc_De_init_105 : decode cd_De_init 105 = .ok (.newarray .int, 2) := by decide +kernel
theorem dc_De_init_107 : decode cd_De_init 107 = .ok (.putfield 53, 3) := by decide +kernel
theorem dc_De_init_110 : decode cd_De_init 110 = .ok (.return_, 1) := by decide +kernel
theorem dc_De_genes_0 : decode cd_De_genes 0 = .ok (.iload_n 1, 1) := by decide +kernel
theorem dc_De_genes_1 : decode cd_De_genes 1 = .ok (.iconst 1, 1) := by decide +kernel
theorem dc_De_genes_2 : decode cd_De_genes 2 = .ok (.if_icmp .lt 9, 3) := by decide +kernel
theorem dc_De_genes_5 : decode cd_De_genes 5 = .ok (.iload_n 1, 1) := by decide +kernel
theorem dc_De_genes_6 : decode cd_De_genes 6 = .ok (.bipush 6, 2) := by decide +kernel
theorem dc_De_genes_8 : decode cd_De_genes 8 = .ok (.if_icmp .le 13, 3) := by decide +kernel
theorem dc_De_genes_11 : decode cd_De_genes 11 = .ok (.new 56, 3) := by decide +kernel
theorem dc_De_genes_14 : decode cd_De_genes 14 = .ok (.dup, 1) := by decide +kernel
theorem dc_De_genes_15 : decode cd_De_genes 15 = .ok (.ldc 58, 2) := by decide +kernel
theorem dc_De_genes_17 : decode cd_De_genes 17 = .ok (.invokespecial 60, 3) := by decide +kernel
theorem dc_De_genes_20 : decode cd_De_genes 20 = .ok (.athrow, 1) := by decide +kernel
theorem dc_De_genes_21 : decode cd_De_genes 21 = .ok (.aload_n 0, 1) := by decide +kernel
theorem dc_De_genes_22 : decode cd_De_genes 22 = .ok (.iload_n 1, 1) := by decide +kernel
theorem dc_De_genes_23 : decode cd_De_genes 23 = .ok (.putfield 9, 3) := by decide +kernel
theorem dc_De_genes_26 : decode cd_De_genes 26 = .ok (.iconst 0, 1) := by decide +kernel
theorem dc_De_genes_27 : decode cd_De_genes 27 = .ok (.istore_n 2, 1) := by decide +kernel
theorem dc_De_genes_28 : decode cd_De_genes 28 = .ok (.iload_n 2, 1) := by decide +kernel
theorem dc_De_genes_29 : decode cd_De_genes 29 = .ok (.iconst 5, 1) := by decide +kernel
theorem dc_De_genes_30 : decode cd_De_genes 30 = .ok (.if_icmp .ge 18, 3) := by decide +kernel
theorem dc_De_genes_33 : decode cd_De_genes 33 = .ok (.aload_n 0, 1) := by decide +kernel
theorem dc_De_genes_34 : decode cd_De_genes 34 = .ok (.getfield 15, 3) := by decide +kernel
theorem dc_De_genes_37 : decode cd_De_genes 37 = .ok (.iload_n 2, 1) := by decide +kernel
theorem dc_De_genes_38 : decode cd_De_genes 38 = .ok (.aaload, 1) := by decide +kernel
theorem dc_De_genes_39 : decode cd_De_genes 39 = .ok (.invokevirtual 63, 3) := by decide +kernel
theorem dc_De_genes_42 : decode cd_De_genes 42 = .ok (.iinc 2 1, 3) := by decide +kernel
theorem dc_De_genes_45 : decode cd_De_genes 45 = .ok (.goto (-17), 3) := by decide +kernel
theorem dc_De_genes_48 : decode cd_De_genes 48 = .ok (.aload_n 0, 1) := by decide +kernel
theorem dc_De_genes_49 : decode cd_De_genes 49 = .ok (.iconst (-1), 1) := by decide +kernel
theorem dc_De_genes_50 : decode cd_De_genes 50 = .ok (.putfield 44, 3) := by decide +kernel
theorem dc_De_genes_53 : decode cd_De_genes 53 = .ok (.return_, 1) := by decide +kernel
theorem dc_De_write_0 : decode cd_De_write 0 = .ok (.aload_n 0, 1) := by decide +kernel
theorem dc_De_write_1 : decode cd_De_write 1 = .ok (.getfield 23, 3) := by decide +kernel
theorem dc_De_write_4 : decode cd_De_write 4 = .ok (.lload_n 1, 1) := by decide +kernel
theorem dc_De_write_5 : decode cd_De_write 5 = .ok (.invokevirtual 66, 3) := by decide +kernel
theorem dc_De_write_8 : decode cd_De_write 8 = .ok (.ireturn, 1) := by decide +kernel
theorem dc_De_wipe_0 : decode cd_De_wipe 0 = .ok (.aload_n 0, 1) := by decide +kernel
theorem dc_De_wipe_1 : decode cd_De_wipe 1 = .ok (.getfield 23, 3) := by decide +kernel
theorem dc_De_wipe_4 : decode cd_De_wipe 4 = .ok (.invokevirtual 70, 3) := by decide +kernel
theorem dc_De_wipe_7 : decode cd_De_wipe 7 = .ok (.ireturn, 1) := by decide +kernel
theorem dc_De_read_0 : decode cd_De_read 0 = .ok (.iload_n 1, 1) := by decide +kernel
theorem dc_De_read_1 : decode cd_De_read 1 = .ok (.invokestatic 74, 3) := by decide +kernel
theorem dc_De_read_4 : decode cd_De_read 4 = .ok (.aload_n 0, 1) := by decide +kernel
theorem dc_De_read_5 : decode cd_De_read 5 = .ok (.getfield 23, 3) := by decide +kernel
theorem dc_De_read_8 : decode cd_De_read 8 = .ok (.aload_n 0, 1) := by decide +kernel
theorem dc_De_read_9 : decode cd_De_read 9 = .ok (.getfield 53, 3) := by decide +kernel
theorem dc_De_read_12 : decode cd_De_read 12 = .ok (.aload_n 0, 1) := by decide +kernel
theorem dc_De_read_13 : decode cd_De_read 13 = .ok (.getfield 9, 3) := by decide +kernel
theorem dc_De_read_16 : decode cd_De_read 16 = .ok (.invokevirtual 78, 3) := by decide +kernel
theorem dc_De_read_19 : decode cd_De_read 19 = .ok (.istore_n 2, 1) := by decide +kernel
theorem dc_De_read_20 : decode cd_De_read 20 = .ok (.iload_n 2, 1) := by decide +kernel
theorem dc_De_read_21 : decode cd_De_read 21 = .ok (.iconst (-1), 1) := by decide +kernel
theorem dc_De_read_22 : decode cd_De_read 22 = .ok (.if_icmp .ne 24, 3) := by decide +kernel
theorem dc_De_read_25 : decode cd_De_read 25 = .ok (.aload_n 0, 1) := by decide +kernel
theorem dc_De_read_26 : decode cd_De_read 26 = .ok (.getfield 15, 3) := by decide +kernel
theorem dc_De_read_29 : decode cd_De_read 29 = .ok (.iload_n 1, 1) := by decide +kernel
theorem dc_De_read_30 : decode cd_De_read 30 = .ok (.aaload, 1) := by decide +kernel
theorem dc_De_read_31 : decode cd_De_read 31 = .ok (.aload_n 0, 1) := by decide +kernel
theorem dc_De_read_32 : decode cd_De_read 32 = .ok (.getfield 53, 3) := by decide +kernel
theorem dc_De_read_35 : decode cd_De_read 35 = .ok (.invokevirtual 82, 3) := by decide +kernel
theorem dc_De_read_38 : decode cd_De_read 38 = .ok (.aload_n 0, 1) := by decide +kernel
theorem dc_De_read_39 : decode cd_De_read 39 = .ok (.getfield 23, 3) := by decide +kernel
theorem dc_De_read_42 : decode cd_De_read 42 = .ok (.invokevirtual 70, 3) := by decide +kernel
theorem dc_De_read_45 : decode cd_De_read 45 = .ok (.pop, 1) := by decide +kernel
theorem dc_De_read_46 : decode cd_De_read 46 = .ok (.iload_n 2, 1) := by decide +kernel
theorem dc_De_read_47 : decode cd_De_read 47 = .ok (.ireturn, 1) := by decide +kernel
theorem dc_De_gene_0 : decode cd_De_gene 0 = .ok (.iload_n 1, 1) := by decide +kernel
theorem dc_De_gene_1 : decode cd_De_gene 1 = .ok (.invokestatic 74, 3) := by decide +kernel
theorem dc_De_gene_4 : decode cd_De_gene 4 = .ok (.iload_n 2, 1) := by decide +kernel
theorem dc_De_gene_5 : decode cd_De_gene 5 = .ok (.ifCond .lt 11, 3) := by decide +kernel
theorem dc_De_gene_8 : decode cd_De_gene 8 = .ok (.iload_n 2, 1) := by decide +kernel
theorem dc_De_gene_9 : decode cd_De_gene 9 = .ok (.aload_n 0, 1) := by decide +kernel
theorem dc_De_gene_10 : decode cd_De_gene 10 = .ok (.getfield 9, 3) := by decide +kernel
theorem dc_De_gene_13 : decode cd_De_gene 13 = .ok (.if_icmp .lt 13, 3) := by decide +kernel
theorem dc_De_gene_16 : decode cd_De_gene 16 = .ok (.new 86, 3) := by decide +kernel
theorem dc_De_gene_19 : decode cd_De_gene 19 = .ok (.dup, 1) := by decide +kernel
theorem dc_De_gene_20 : decode cd_De_gene 20 = .ok (.ldc 88, 2) := by decide +kernel
theorem dc_De_gene_22 : decode cd_De_gene 22 = .ok (.invokespecial 90, 3) := by decide +kernel
theorem dc_De_gene_25 : decode cd_De_gene 25 = .ok (.athrow, 1) := by decide +kernel
theorem dc_De_gene_26 : decode cd_De_gene 26 = .ok (.aload_n 0, 1) := by decide +kernel
theorem dc_De_gene_27 : decode cd_De_gene 27 = .ok (.getfield 15, 3) := by decide +kernel
theorem dc_De_gene_30 : decode cd_De_gene 30 = .ok (.iload_n 1, 1) := by decide +kernel
theorem dc_De_gene_31 : decode cd_De_gene 31 = .ok (.aaload, 1) := by decide +kernel
theorem dc_De_gene_32 : decode cd_De_gene 32 = .ok (.getfield 91, 3) := by decide +kernel
theorem dc_De_gene_35 : decode cd_De_gene 35 = .ok (.iload_n 2, 1) := by decide +kernel
theorem dc_De_gene_36 : decode cd_De_gene 36 = .ok (.iaload, 1) := by decide +kernel
theorem dc_De_gene_37 : decode cd_De_gene 37 = .ok (.ireturn, 1) := by decide +kernel
theorem dc_De_copy_0 : decode cd_De_copy 0 = .ok (.iload_n 1, 1) := by decide +kernel
theorem dc_De_copy_1 : decode cd_De_copy 1 = .ok (.iload_n 2, 1) := by decide +kernel
theorem dc_De_copy_2 : decode cd_De_copy 2 = .ok (.invokestatic 94, 3) := by decide +kernel
theorem dc_De_copy_5 : decode cd_De_copy 5 = .ok (.aload_n 0, 1) := by decide +kernel
theorem dc_De_copy_6 : decode cd_De_copy 6 = .ok (.getfield 15, 3) := by decide +kernel
theorem dc_De_copy_9 : decode cd_De_copy 9 = .ok (.iload_n 2, 1) := by decide +kernel
theorem dc_De_copy_10 : decode cd_De_copy 10 = .ok (.aaload, 1) := by decide +kernel
theorem dc_De_copy_11 : decode cd_De_copy 11 = .ok (.aload_n 0, 1) := by decide +kernel
theorem dc_De_copy_12 : decode cd_De_copy 12 = .ok (.getfield 15, 3) := by decide +kernel
theorem dc_De_copy_15 : decode cd_De_copy 15 = .ok (.iload_n 1, 1) := by decide +kernel
theorem dc_De_copy_16 : decode cd_De_copy 16 = .ok (.aaload, 1) := by decide +kernel
theorem dc_De_copy_17 : decode cd_De_copy 17 = .ok (.getfield 91, 3) := by decide +kernel
theorem dc_De_copy_20 : decode cd_De_copy 20 = .ok (.invokevirtual 82, 3) := by decide +kernel
theorem dc_De_copy_23 : decode cd_De_copy 23 = .ok (.return_, 1) := by decide +kernel
theorem dc_De_reverse_0 : decode cd_De_reverse 0 = .ok (.iload_n 1, 1) := by decide +kernel
theorem dc_De_reverse_1 : decode cd_De_reverse 1 = .ok (.invokestatic 74, 3) := by decide +kernel
theorem dc_De_reverse_4 : decode cd_De_reverse 4 = .ok (.iload_n 2, 1) := by decide +kernel
theorem dc_De_reverse_5 : decode cd_De_reverse 5 = .ok (.ifCond .lt 16, 3) := by decide +kernel
theorem dc_De_reverse_8 : decode cd_De_reverse 8 = .ok (.iload_n 3, 1) := by decide +kernel
theorem dc_De_reverse_9 : decode cd_De_reverse 9 = .ok (.aload_n 0, 1) := by decide +kernel
theorem dc_De_reverse_10 : decode cd_De_reverse 10 = .ok (.getfield 9, 3) := by decide +kernel
theorem dc_De_reverse_13 : decode cd_De_reverse 13 = .ok (.if_icmp .ge 8, 3) := by decide +kernel
theorem dc_De_reverse_16 : decode cd_De_reverse 16 = .ok (.iload_n 2, 1) := by decide +kernel
theorem dc_De_reverse_17 : decode cd_De_reverse 17 = .ok (.iload_n 3, 1) := by decide +kernel
theorem dc_De_reverse_18 : decode cd_De_reverse 18 = .ok (.if_icmp .le 13, 3) := by decide +kernel
theorem dc_De_reverse_21 : decode cd_De_reverse 21 = .ok (.new 86, 3) := by decide +kernel
theorem dc_De_reverse_24 : decode cd_De_reverse 24 = .ok (.dup, 1) := by decide +kernel
theorem dc_De_reverse_25 : decode cd_De_reverse 25 = .ok (.ldc 98, 2) := by decide +kernel
theorem dc_De_reverse_27 : decode cd_De_reverse 27 = .ok (.invokespecial 90, 3) := by decide +kernel
theorem dc_De_reverse_30 : decode cd_De_reverse 30 = .ok (.athrow, 1) := by decide +kernel
theorem dc_De_reverse_31 : decode cd_De_reverse 31 = .ok (.aload_n 0, 1) := by decide +kernel
theorem dc_De_reverse_32 : decode cd_De_reverse 32 = .ok (.getfield 15, 3) := by decide +kernel
theorem dc_De_reverse_35 : decode cd_De_reverse 35 = .ok (.iload_n 1, 1) := by decide +kernel
theorem dc_De_reverse_36 : decode cd_De_reverse 36 = .ok (.aaload, 1) := by decide +kernel
theorem dc_De_reverse_37 : decode cd_De_reverse 37 = .ok (.iload_n 2, 1) := by decide +kernel
theorem dc_De_reverse_38 : decode cd_De_reverse 38 = .ok (.iload_n 3, 1) := by decide +kernel
theorem dc_De_reverse_39 : decode cd_De_reverse 39 = .ok (.invokevirtual 100, 3) := by decide +kernel
theorem dc_De_reverse_42 : decode cd_De_reverse 42 = .ok (.return_, 1) := by decide +kernel
theorem dc_De_undo_0 : decode cd_De_undo 0 = .ok (.iload_n 1, 1) := by decide +kernel
theorem dc_De_undo_1 : decode cd_De_undo 1 = .ok (.invokestatic 74, 3) := by decide +kernel
theorem dc_De_undo_4 : decode cd_De_undo 4 = .ok (.aload_n 0, 1) := by decide +kernel
theorem dc_De_undo_5 : decode cd_De_undo 5 = .ok (.getfield 15, 3) := by decide +kernel
theorem dc_De_undo_8 : decode cd_De_undo 8 = .ok (.iload_n 1, 1) := by decide +kernel
theorem dc_De_undo_9 : decode cd_De_undo 9 = .ok (.aaload, 1) := by decide +kernel
theorem dc_De_undo_10 : decode cd_De_undo 10 = .ok (.invokevirtual 103, 3) := by decide +kernel
theorem dc_De_undo_13 : decode cd_De_undo 13 = .ok (.ireturn, 1) := by decide +kernel
theorem dc_De_distance_0 : decode cd_De_distance 0 = .ok (.iload_n 1, 1) := by decide +kernel
theorem dc_De_distance_1 : decode cd_De_distance 1 = .ok (.iload_n 2, 1) := by decide +kernel
theorem dc_De_distance_2 : decode cd_De_distance 2 = .ok (.invokestatic 94, 3) := by decide +kernel
theorem dc_De_distance_5 : decode cd_De_distance 5 = .ok (.aload_n 0, 1) := by decide +kernel
theorem dc_De_distance_6 : decode cd_De_distance 6 = .ok (.iload_n 1, 1) := by decide +kernel
theorem dc_De_distance_7 : decode cd_De_distance 7 = .ok (.iload_n 2, 1) := by decide +kernel
theorem dc_De_distance_8 : decode cd_De_distance 8 = .ok (.invokevirtual 107, 3) := by decide +kernel
theorem dc_De_distance_11 : decode cd_De_distance 11 = .ok (.aload_n 0, 1) := by decide +kernel
theorem dc_De_distance_12 : decode cd_De_distance 12 = .ok (.getfield 30, 3) := by decide +kernel
theorem dc_De_distance_15 : decode cd_De_distance 15 = .ok (.invokevirtual 110, 3) := by decide +kernel
theorem dc_De_distance_18 : decode cd_De_distance 18 = .ok (.ireturn, 1) := by decide +kernel
theorem dc_De_drawing_0 : decode cd_De_drawing 0 = .ok (.iload_n 1, 1) := by decide +kernel
theorem dc_De_drawing_1 : decode cd_De_drawing 1 = .ok (.iload_n 2, 1) := by decide +kernel
theorem dc_De_drawing_2 : decode cd_De_drawing 2 = .ok (.invokestatic 94, 3) := by decide +kernel
theorem dc_De_drawing_5 : decode cd_De_drawing 5 = .ok (.iload_n 3, 1) := by decide +kernel
theorem dc_De_drawing_6 : decode cd_De_drawing 6 = .ok (.ifCond .lt 8, 3) := by decide +kernel
theorem dc_De_drawing_9 : decode cd_De_drawing 9 = .ok (.iload_n 3, 1) := by decide +kernel
theorem dc_De_drawing_10 : decode cd_De_drawing 10 = .ok (.iconst 5, 1) := by decide +kernel
theorem dc_De_drawing_11 : decode cd_De_drawing 11 = .ok (.if_icmp .le 13, 3) := by decide +kernel
theorem dc_De_drawing_14 : decode cd_De_drawing 14 = .ok (.new 56, 3) := by decide +kernel
theorem dc_De_drawing_17 : decode cd_De_drawing 17 = .ok (.dup, 1) := by decide +kernel
theorem dc_De_drawing_18 : decode cd_De_drawing 18 = .ok (.ldc 113, 2) := by decide +kernel
theorem dc_De_drawing_20 : decode cd_De_drawing 20 = .ok (.invokespecial 60, 3) := by decide +kernel
theorem dc_De_drawing_23 : decode cd_De_drawing 23 = .ok (.athrow, 1) := by decide +kernel
theorem dc_De_drawing_24 : decode cd_De_drawing 24 = .ok (.aload_n 0, 1) := by decide +kernel
theorem dc_De_drawing_25 : decode cd_De_drawing 25 = .ok (.iload_n 1, 1) := by decide +kernel
theorem dc_De_drawing_26 : decode cd_De_drawing 26 = .ok (.iload_n 2, 1) := by decide +kernel
theorem dc_De_drawing_27 : decode cd_De_drawing 27 = .ok (.invokevirtual 107, 3) := by decide +kernel
theorem dc_De_drawing_30 : decode cd_De_drawing 30 = .ok (.iload_n 3, 1) := by decide +kernel
theorem dc_De_drawing_31 : decode cd_De_drawing 31 = .ok (.tableswitch 73 0 4 #[33, 41, 49, 57, 65], 33) := by decide +kernel
theorem dc_De_drawing_64 : decode cd_De_drawing 64 = .ok (.aload_n 0, 1) := by decide +kernel
theorem dc_De_drawing_65 : decode cd_De_drawing 65 = .ok (.getfield 30, 3) := by decide +kernel
theorem dc_De_drawing_68 : decode cd_De_drawing 68 = .ok (.invokevirtual 115, 3) := by decide +kernel
theorem dc_De_drawing_71 : decode cd_De_drawing 71 = .ok (.ireturn, 1) := by decide +kernel
theorem dc_De_drawing_72 : decode cd_De_drawing 72 = .ok (.aload_n 0, 1) := by decide +kernel
theorem dc_De_drawing_73 : decode cd_De_drawing 73 = .ok (.getfield 30, 3) := by decide +kernel
theorem dc_De_drawing_76 : decode cd_De_drawing 76 = .ok (.invokevirtual 118, 3) := by decide +kernel
theorem dc_De_drawing_79 : decode cd_De_drawing 79 = .ok (.ireturn, 1) := by decide +kernel
theorem dc_De_drawing_80 : decode cd_De_drawing 80 = .ok (.aload_n 0, 1) := by decide +kernel
theorem dc_De_drawing_81 : decode cd_De_drawing 81 = .ok (.getfield 30, 3) := by decide +kernel
theorem dc_De_drawing_84 : decode cd_De_drawing 84 = .ok (.invokevirtual 121, 3) := by decide +kernel
theorem dc_De_drawing_87 : decode cd_De_drawing 87 = .ok (.ireturn, 1) := by decide +kernel
theorem dc_De_drawing_88 : decode cd_De_drawing 88 = .ok (.aload_n 0, 1) := by decide +kernel
theorem dc_De_drawing_89 : decode cd_De_drawing 89 = .ok (.getfield 30, 3) := by decide +kernel
theorem dc_De_drawing_92 : decode cd_De_drawing 92 = .ok (.invokevirtual 124, 3) := by decide +kernel
theorem dc_De_drawing_95 : decode cd_De_drawing 95 = .ok (.ireturn, 1) := by decide +kernel
theorem dc_De_drawing_96 : decode cd_De_drawing 96 = .ok (.aload_n 0, 1) := by decide +kernel
theorem dc_De_drawing_97 : decode cd_De_drawing 97 = .ok (.getfield 30, 3) := by decide +kernel
theorem dc_De_drawing_100 : decode cd_De_drawing 100 = .ok (.invokevirtual 127, 3) := by decide +kernel
theorem dc_De_drawing_103 : decode cd_De_drawing 103 = .ok (.ireturn, 1) := by decide +kernel
theorem dc_De_drawing_104 : decode cd_De_drawing 104 = .ok (.aload_n 0, 1) := by decide +kernel
theorem dc_De_drawing_105 : decode cd_De_drawing 105 = .ok (.getfield 30, 3) := by decide +kernel
theorem dc_De_drawing_108 : decode cd_De_drawing 108 = .ok (.invokevirtual 130, 3) := by decide +kernel
theorem dc_De_drawing_111 : decode cd_De_drawing 111 = .ok (.ireturn, 1) := by decide +kernel
theorem dc_De_line_0 : decode cd_De_line 0 = .ok (.iload_n 1, 1) := by decide +kernel
theorem dc_De_line_1 : decode cd_De_line 1 = .ok (.iload_n 2, 1) := by decide +kernel
theorem dc_De_line_2 : decode cd_De_line 2 = .ok (.invokestatic 94, 3) := by decide +kernel
theorem dc_De_line_5 : decode cd_De_line 5 = .ok (.iload_n 3, 1) := by decide +kernel
theorem dc_De_line_6 : decode cd_De_line 6 = .ok (.ifCond .lt 11, 3) := by decide +kernel
theorem dc_De_line_9 : decode cd_De_line 9 = .ok (.iload_n 3, 1) := by decide +kernel
theorem dc_De_line_10 : decode cd_De_line 10 = .ok (.aload_n 0, 1) := by decide +kernel
theorem dc_De_line_11 : decode cd_De_line 11 = .ok (.getfield 9, 3) := by decide +kernel
theorem dc_De_line_14 : decode cd_De_line 14 = .ok (.if_icmp .le 13, 3) := by decide +kernel
theorem dc_De_line_17 : decode cd_De_line 17 = .ok (.new 56, 3) := by decide +kernel
theorem dc_De_line_20 : decode cd_De_line 20 = .ok (.dup, 1) := by decide +kernel
theorem dc_De_line_21 : decode cd_De_line 21 = .ok (.ldc 133, 2) := by decide +kernel
theorem dc_De_line_23 : decode cd_De_line 23 = .ok (.invokespecial 60, 3) := by decide +kernel
theorem dc_De_line_26 : decode cd_De_line 26 = .ok (.athrow, 1) := by decide +kernel
theorem dc_De_line_27 : decode cd_De_line 27 = .ok (.aload_n 0, 1) := by decide +kernel
theorem dc_De_line_28 : decode cd_De_line 28 = .ok (.iload_n 1, 1) := by decide +kernel
theorem dc_De_line_29 : decode cd_De_line 29 = .ok (.iload_n 2, 1) := by decide +kernel
theorem dc_De_line_30 : decode cd_De_line 30 = .ok (.invokevirtual 107, 3) := by decide +kernel
theorem dc_De_line_33 : decode cd_De_line 33 = .ok (.bipush 100, 2) := by decide +kernel
theorem dc_De_line_35 : decode cd_De_line 35 = .ok (.aload_n 0, 1) := by decide +kernel
theorem dc_De_line_36 : decode cd_De_line 36 = .ok (.getfield 30, 3) := by decide +kernel
theorem dc_De_line_39 : decode cd_De_line 39 = .ok (.getfield 135, 3) := by decide +kernel
theorem dc_De_line_42 : decode cd_De_line 42 = .ok (.iload_n 3, 1) := by decide +kernel
theorem dc_De_line_43 : decode cd_De_line 43 = .ok (.iaload, 1) := by decide +kernel
theorem dc_De_line_44 : decode cd_De_line 44 = .ok (.imul, 1) := by decide +kernel
theorem dc_De_line_45 : decode cd_De_line 45 = .ok (.aload_n 0, 1) := by decide +kernel
theorem dc_De_line_46 : decode cd_De_line 46 = .ok (.getfield 30, 3) := by decide +kernel
theorem dc_De_line_49 : decode cd_De_line 49 = .ok (.getfield 138, 3) := by decide +kernel
theorem dc_De_line_52 : decode cd_De_line 52 = .ok (.iload_n 3, 1) := by decide +kernel
theorem dc_De_line_53 : decode cd_De_line 53 = .ok (.iaload, 1) := by decide +kernel
theorem dc_De_line_54 : decode cd_De_line 54 = .ok (.iadd, 1) := by decide +kernel
theorem dc_De_line_55 : decode cd_De_line 55 = .ok (.ireturn, 1) := by decide +kernel
theorem dc_De_interval_0 : decode cd_De_interval 0 = .ok (.iload_n 1, 1) := by decide +kernel
theorem dc_De_interval_1 : decode cd_De_interval 1 = .ok (.iload_n 2, 1) := by decide +kernel
theorem dc_De_interval_2 : decode cd_De_interval 2 = .ok (.invokestatic 94, 3) := by decide +kernel
theorem dc_De_interval_5 : decode cd_De_interval 5 = .ok (.aload_n 0, 1) := by decide +kernel
theorem dc_De_interval_6 : decode cd_De_interval 6 = .ok (.aload_n 0, 1) := by decide +kernel
theorem dc_De_interval_7 : decode cd_De_interval 7 = .ok (.getfield 15, 3) := by decide +kernel
theorem dc_De_interval_10 : decode cd_De_interval 10 = .ok (.iload_n 1, 1) := by decide +kernel
theorem dc_De_interval_11 : decode cd_De_interval 11 = .ok (.aaload, 1) := by decide +kernel
theorem dc_De_interval_12 : decode cd_De_interval 12 = .ok (.getfield 91, 3) := by decide +kernel
theorem dc_De_interval_15 : decode cd_De_interval 15 = .ok (.aload_n 0, 1) := by decide +kernel
theorem dc_De_interval_16 : decode cd_De_interval 16 = .ok (.getfield 15, 3) := by decide +kernel
theorem dc_De_interval_19 : decode cd_De_interval 19 = .ok (.iload_n 2, 1) := by decide +kernel
theorem dc_De_interval_20 : decode cd_De_interval 20 = .ok (.aaload, 1) := by decide +kernel
theorem dc_De_interval_21 : decode cd_De_interval 21 = .ok (.getfield 91, 3) := by decide +kernel
theorem dc_De_interval_24 : decode cd_De_interval 24 = .ok (.invokevirtual 141, 3) := by decide +kernel
theorem dc_De_interval_27 : decode cd_De_interval 27 = .ok (.iconst 0, 1) := by decide +kernel
theorem dc_De_interval_28 : decode cd_De_interval 28 = .ok (.istore 4, 2) := by decide +kernel
theorem dc_De_interval_30 : decode cd_De_interval 30 = .ok (.iconst 0, 1) := by decide +kernel
theorem dc_De_interval_31 : decode cd_De_interval 31 = .ok (.istore 5, 2) := by decide +kernel
theorem dc_De_interval_33 : decode cd_De_interval 33 = .ok (.iload 5, 2) := by decide +kernel
theorem dc_De_interval_35 : decode cd_De_interval 35 = .ok (.aload_n 0, 1) := by decide +kernel
theorem dc_De_interval_36 : decode cd_De_interval 36 = .ok (.getfield 9, 3) := by decide +kernel
theorem dc_De_interval_39 : decode cd_De_interval 39 = .ok (.if_icmp .ge 107, 3) := by decide +kernel
theorem dc_De_interval_42 : decode cd_De_interval 42 = .ok (.aload_n 0, 1) := by decide +kernel
theorem dc_De_interval_43 : decode cd_De_interval 43 = .ok (.getfield 50, 3) := by decide +kernel
theorem dc_De_interval_46 : decode cd_De_interval 46 = .ok (.iload 5, 2) := by decide +kernel
theorem dc_De_interval_48 : decode cd_De_interval 48 = .ok (.iaload, 1) := by decide +kernel
theorem dc_De_interval_49 : decode cd_De_interval 49 = .ok (.invokestatic 145, 3) := by decide +kernel
theorem dc_De_interval_52 : decode cd_De_interval 52 = .ok (.istore 6, 2) := by decide +kernel
theorem dc_De_interval_54 : decode cd_De_interval 54 = .ok (.iload 6, 2) := by decide +kernel
theorem dc_De_interval_56 : decode cd_De_interval 56 = .ok (.istore 7, 2) := by decide +kernel
theorem dc_De_interval_58 : decode cd_De_interval 58 = .ok (.iload 5, 2) := by decide +kernel
theorem dc_De_interval_60 : decode cd_De_interval 60 = .ok (.iconst 1, 1) := by decide +kernel
theorem dc_De_interval_61 : decode cd_De_interval 61 = .ok (.iadd, 1) := by decide +kernel
theorem dc_De_interval_62 : decode cd_De_interval 62 = .ok (.istore 8, 2) := by decide +kernel
theorem dc_De_interval_64 : decode cd_De_interval 64 = .ok (.iload 8, 2) := by decide +kernel
theorem dc_De_interval_66 : decode cd_De_interval 66 = .ok (.aload_n 0, 1) := by decide +kernel
theorem dc_De_interval_67 : decode cd_De_interval 67 = .ok (.getfield 9, 3) := by decide +kernel
theorem dc_De_interval_70 : decode cd_De_interval 70 = .ok (.if_icmp .ge 70, 3) := by decide +kernel
theorem dc_De_interval_73 : decode cd_De_interval 73 = .ok (.aload_n 0, 1) := by decide +kernel
theorem dc_De_interval_74 : decode cd_De_interval 74 = .ok (.getfield 50, 3) := by decide +kernel
theorem dc_De_interval_77 : decode cd_De_interval 77 = .ok (.iload 8, 2) := by decide +kernel
theorem dc_De_interval_79 : decode cd_De_interval 79 = .ok (.iaload, 1) := by decide +kernel
theorem dc_De_interval_80 : decode cd_De_interval 80 = .ok (.invokestatic 145, 3) := by decide +kernel
theorem dc_De_interval_83 : decode cd_De_interval 83 = .ok (.istore 9, 2) := by decide +kernel
theorem dc_De_interval_85 : decode cd_De_interval 85 = .ok (.iload 6, 2) := by decide +kernel
theorem dc_De_interval_87 : decode cd_De_interval 87 = .ok (.iload 9, 2) := by decide +kernel
theorem dc_De_interval_89 : decode cd_De_interval 89 = .ok (.invokestatic 151, 3) := by decide +kernel
theorem dc_De_interval_92 : decode cd_De_interval 92 = .ok (.istore 6, 2) := by decide +kernel
theorem dc_De_interval_94 : decode cd_De_interval 94 = .ok (.iload 7, 2) := by decide +kernel
theorem dc_De_interval_96 : decode cd_De_interval 96 = .ok (.iload 9, 2) := by decide +kernel
theorem dc_De_interval_98 : decode cd_De_interval 98 = .ok (.invokestatic 155, 3) := by decide +kernel
theorem dc_De_interval_101 : decode cd_De_interval 101 = .ok (.istore 7, 2) := by decide +kernel
theorem dc_De_interval_103 : decode cd_De_interval 103 = .ok (.iload 7, 2) := by decide +kernel
theorem dc_De_interval_105 : decode cd_De_interval 105 = .ok (.iload 6, 2) := by decide +kernel
theorem dc_De_interval_107 : decode cd_De_interval 107 = .ok (.isub, 1) := by decide +kernel
theorem dc_De_interval_108 : decode cd_De_interval 108 = .ok (.iload 8, 2) := by decide +kernel
theorem dc_De_interval_110 : decode cd_De_interval 110 = .ok (.iload 5, 2) := by decide +kernel
theorem dc_De_interval_112 : decode cd_De_interval 112 = .ok (.isub, 1) := by decide +kernel
theorem dc_De_interval_113 : decode cd_De_interval 113 = .ok (.if_icmp .ne 21, 3) := by decide +kernel
theorem dc_De_interval_116 : decode cd_De_interval 116 = .ok (.iload 4, 2) := by decide +kernel
theorem dc_De_interval_118 : decode cd_De_interval 118 = .ok (.iload_n 3, 1) := by decide +kernel
theorem dc_De_interval_119 : decode cd_De_interval 119 = .ok (.if_icmp .ne 12, 3) := by decide +kernel
theorem dc_De_interval_122 : decode cd_De_interval 122 = .ok (.bipush 10, 2) := by decide +kernel
theorem dc_De_interval_124 : decode cd_De_interval 124 = .ok (.iload 5, 2) := by decide +kernel
theorem dc_De_interval_126 : decode cd_De_interval 126 = .ok (.imul, 1) := by decide +kernel
theorem dc_De_interval_127 : decode cd_De_interval 127 = .ok (.iload 8, 2) := by decide +kernel
theorem dc_De_interval_129 : decode cd_De_interval 129 = .ok (.iadd, 1) := by decide +kernel
theorem dc_De_interval_130 : decode cd_De_interval 130 = .ok (.ireturn, 1) := by decide +kernel
theorem dc_De_interval_131 : decode cd_De_interval 131 = .ok (.iinc 4 1, 3) := by decide +kernel
theorem dc_De_interval_134 : decode cd_De_interval 134 = .ok (.iinc 8 1, 3) := by decide +kernel
theorem dc_De_interval_137 : decode cd_De_interval 137 = .ok (.goto (-73), 3) := by decide +kernel
theorem dc_De_interval_140 : decode cd_De_interval 140 = .ok (.iinc 5 1, 3) := by decide +kernel
theorem dc_De_interval_143 : decode cd_De_interval 143 = .ok (.goto (-110), 3) := by decide +kernel
theorem dc_De_interval_146 : decode cd_De_interval 146 = .ok (.iconst (-1), 1) := by decide +kernel
theorem dc_De_interval_147 : decode cd_De_interval 147 = .ok (.ireturn, 1) := by decide +kernel
theorem dc_De_scenario_0 : decode cd_De_scenario 0 = .ok (.iload_n 1, 1) := by decide +kernel
theorem dc_De_scenario_1 : decode cd_De_scenario 1 = .ok (.iload_n 2, 1) := by decide +kernel
theorem dc_De_scenario_2 : decode cd_De_scenario 2 = .ok (.invokestatic 94, 3) := by decide +kernel
theorem dc_De_scenario_5 : decode cd_De_scenario 5 = .ok (.aload_n 0, 1) := by decide +kernel
theorem dc_De_scenario_6 : decode cd_De_scenario 6 = .ok (.iload_n 1, 1) := by decide +kernel
theorem dc_De_scenario_7 : decode cd_De_scenario 7 = .ok (.iload_n 2, 1) := by decide +kernel
theorem dc_De_scenario_8 : decode cd_De_scenario 8 = .ok (.invokevirtual 107, 3) := by decide +kernel
theorem dc_De_scenario_11 : decode cd_De_scenario 11 = .ok (.aload_n 0, 1) := by decide +kernel
theorem dc_De_scenario_12 : decode cd_De_scenario 12 = .ok (.getfield 30, 3) := by decide +kernel
theorem dc_De_scenario_15 : decode cd_De_scenario 15 = .ok (.invokevirtual 110, 3) := by decide +kernel
theorem dc_De_scenario_18 : decode cd_De_scenario 18 = .ok (.istore_n 3, 1) := by decide +kernel
theorem dc_De_scenario_19 : decode cd_De_scenario 19 = .ok (.iconst 0, 1) := by decide +kernel
theorem dc_De_scenario_20 : decode cd_De_scenario 20 = .ok (.istore 4, 2) := by decide +kernel
theorem dc_De_scenario_22 : decode cd_De_scenario 22 = .ok (.iload 4, 2) := by decide +kernel
theorem dc_De_scenario_24 : decode cd_De_scenario 24 = .ok (.iload_n 3, 1) := by decide +kernel
theorem dc_De_scenario_25 : decode cd_De_scenario 25 = .ok (.if_icmp .ge 33, 3) := by decide +kernel
theorem dc_De_scenario_28 : decode cd_De_scenario 28 = .ok (.iload 4, 2) := by decide +kernel
theorem dc_De_scenario_30 : decode cd_De_scenario 30 = .ok (.bipush 7, 2) := by decide +kernel
theorem dc_De_scenario_32 : decode cd_De_scenario 32 = .ok (.if_icmp .ge 26, 3) := by decide +kernel
theorem dc_De_scenario_35 : decode cd_De_scenario 35 = .ok (.aload_n 0, 1) := by decide +kernel
theorem dc_De_scenario_36 : decode cd_De_scenario 36 = .ok (.getfield 40, 3) := by decide +kernel
theorem dc_De_scenario_39 : decode cd_De_scenario 39 = .ok (.iload 4, 2) := by decide +kernel
theorem dc_De_scenario_41 : decode cd_De_scenario 41 = .ok (.aload_n 0, 1) := by decide +kernel
theorem dc_De_scenario_42 : decode cd_De_scenario 42 = .ok (.iload_n 3, 1) := by decide +kernel
theorem dc_De_scenario_43 : decode cd_De_scenario 43 = .ok (.iload 4, 2) := by decide +kernel
theorem dc_De_scenario_45 : decode cd_De_scenario 45 = .ok (.isub, 1) := by decide +kernel
theorem dc_De_scenario_46 : decode cd_De_scenario 46 = .ok (.iconst 1, 1) := by decide +kernel
theorem dc_De_scenario_47 : decode cd_De_scenario 47 = .ok (.isub, 1) := by decide +kernel
theorem dc_De_scenario_48 : decode cd_De_scenario 48 = .ok (.invokevirtual 158, 3) := by decide +kernel
theorem dc_De_scenario_51 : decode cd_De_scenario 51 = .ok (.iastore, 1) := by decide +kernel
theorem dc_De_scenario_52 : decode cd_De_scenario 52 = .ok (.iinc 4 1, 3) := by decide +kernel
theorem dc_De_scenario_55 : decode cd_De_scenario 55 = .ok (.goto (-33), 3) := by decide +kernel
theorem dc_De_scenario_58 : decode cd_De_scenario 58 = .ok (.aload_n 0, 1) := by decide +kernel
theorem dc_De_scenario_59 : decode cd_De_scenario 59 = .ok (.iload_n 3, 1) := by decide +kernel
theorem dc_De_scenario_60 : decode cd_De_scenario 60 = .ok (.putfield 44, 3) := by decide +kernel
theorem dc_De_scenario_63 : decode cd_De_scenario 63 = .ok (.iload_n 3, 1) := by decide +kernel
theorem dc_De_scenario_64 : decode cd_De_scenario 64 = .ok (.ireturn, 1) := by decide +kernel
theorem dc_De_step_0 : decode cd_De_step 0 = .ok (.aload_n 0, 1) := by decide +kernel
theorem dc_De_step_1 : decode cd_De_step 1 = .ok (.getfield 44, 3) := by decide +kernel
theorem dc_De_step_4 : decode cd_De_step 4 = .ok (.iconst (-1), 1) := by decide +kernel
theorem dc_De_step_5 : decode cd_De_step 5 = .ok (.if_icmp .ne 13, 3) := by decide +kernel
theorem dc_De_step_8 : decode cd_De_step 8 = .ok (.new 161, 3) := by decide +kernel
theorem dc_De_step_11 : decode cd_De_step 11 = .ok (.dup, 1) := by decide +kernel
theorem dc_De_step_12 : decode cd_De_step 12 = .ok (.ldc 163, 2) := by decide +kernel
theorem dc_De_step_14 : decode cd_De_step 14 = .ok (.invokespecial 165, 3) := by decide +kernel
theorem dc_De_step_17 : decode cd_De_step 17 = .ok (.athrow, 1) := by decide +kernel
theorem dc_De_step_18 : decode cd_De_step 18 = .ok (.iload_n 1, 1) := by decide +kernel
theorem dc_De_step_19 : decode cd_De_step 19 = .ok (.ifCond .lt 11, 3) := by decide +kernel
theorem dc_De_step_22 : decode cd_De_step 22 = .ok (.iload_n 1, 1) := by decide +kernel
theorem dc_De_step_23 : decode cd_De_step 23 = .ok (.aload_n 0, 1) := by decide +kernel
theorem dc_De_step_24 : decode cd_De_step 24 = .ok (.getfield 44, 3) := by decide +kernel
theorem dc_De_step_27 : decode cd_De_step 27 = .ok (.if_icmp .lt 13, 3) := by decide +kernel
theorem dc_De_step_30 : decode cd_De_step 30 = .ok (.new 56, 3) := by decide +kernel
theorem dc_De_step_33 : decode cd_De_step 33 = .ok (.dup, 1) := by decide +kernel
theorem dc_De_step_34 : decode cd_De_step 34 = .ok (.ldc 166, 2) := by decide +kernel
theorem dc_De_step_36 : decode cd_De_step 36 = .ok (.invokespecial 60, 3) := by decide +kernel
theorem dc_De_step_39 : decode cd_De_step 39 = .ok (.athrow, 1) := by decide +kernel
theorem dc_De_step_40 : decode cd_De_step 40 = .ok (.aload_n 0, 1) := by decide +kernel
theorem dc_De_step_41 : decode cd_De_step 41 = .ok (.getfield 40, 3) := by decide +kernel
theorem dc_De_step_44 : decode cd_De_step 44 = .ok (.iload_n 1, 1) := by decide +kernel
theorem dc_De_step_45 : decode cd_De_step 45 = .ok (.iaload, 1) := by decide +kernel
theorem dc_De_step_46 : decode cd_De_step 46 = .ok (.ireturn, 1) := by decide +kernel
theorem dc_De_ways_0 : decode cd_De_ways 0 = .ok (.iload_n 1, 1) := by decide +kernel
theorem dc_De_ways_1 : decode cd_De_ways 1 = .ok (.iload_n 2, 1) := by decide +kernel
theorem dc_De_ways_2 : decode cd_De_ways 2 = .ok (.invokestatic 94, 3) := by decide +kernel
theorem dc_De_ways_5 : decode cd_De_ways 5 = .ok (.aload_n 0, 1) := by decide +kernel
theorem dc_De_ways_6 : decode cd_De_ways 6 = .ok (.invokevirtual 168, 3) := by decide +kernel
theorem dc_De_ways_9 : decode cd_De_ways 9 = .ok (.astore_n 3, 1) := by decide +kernel
theorem dc_De_ways_10 : decode cd_De_ways 10 = .ok (.aload_n 0, 1) := by decide +kernel
theorem dc_De_ways_11 : decode cd_De_ways 11 = .ok (.aload_n 0, 1) := by decide +kernel
theorem dc_De_ways_12 : decode cd_De_ways 12 = .ok (.getfield 15, 3) := by decide +kernel
theorem dc_De_ways_15 : decode cd_De_ways 15 = .ok (.iload_n 1, 1) := by decide +kernel
theorem dc_De_ways_16 : decode cd_De_ways 16 = .ok (.aaload, 1) := by decide +kernel
theorem dc_De_ways_17 : decode cd_De_ways 17 = .ok (.getfield 91, 3) := by decide +kernel
theorem dc_De_ways_20 : decode cd_De_ways 20 = .ok (.aload_n 0, 1) := by decide +kernel
theorem dc_De_ways_21 : decode cd_De_ways 21 = .ok (.getfield 15, 3) := by decide +kernel
theorem dc_De_ways_24 : decode cd_De_ways 24 = .ok (.iload_n 2, 1) := by decide +kernel
theorem dc_De_ways_25 : decode cd_De_ways 25 = .ok (.aaload, 1) := by decide +kernel
theorem dc_De_ways_26 : decode cd_De_ways 26 = .ok (.getfield 91, 3) := by decide +kernel
theorem dc_De_ways_29 : decode cd_De_ways 29 = .ok (.invokevirtual 141, 3) := by decide +kernel
theorem dc_De_ways_32 : decode cd_De_ways 32 = .ok (.aload_n 3, 1) := by decide +kernel
theorem dc_De_ways_33 : decode cd_De_ways 33 = .ok (.aload_n 0, 1) := by decide +kernel
theorem dc_De_ways_34 : decode cd_De_ways 34 = .ok (.getfield 50, 3) := by decide +kernel
theorem dc_De_ways_37 : decode cd_De_ways 37 = .ok (.invokevirtual 172, 3) := by decide +kernel
theorem dc_De_ways_40 : decode cd_De_ways 40 = .ok (.lreturn, 1) := by decide +kernel
theorem dc_De_circle_0 : decode cd_De_circle 0 = .ok (.iload_n 1, 1) := by decide +kernel
theorem dc_De_circle_1 : decode cd_De_circle 1 = .ok (.invokestatic 74, 3) := by decide +kernel
theorem dc_De_circle_4 : decode cd_De_circle 4 = .ok (.aload_n 0, 1) := by decide +kernel
theorem dc_De_circle_5 : decode cd_De_circle 5 = .ok (.invokevirtual 168, 3) := by decide +kernel
theorem dc_De_circle_8 : decode cd_De_circle 8 = .ok (.iload_n 2, 1) := by decide +kernel
theorem dc_De_circle_9 : decode cd_De_circle 9 = .ok (.invokevirtual 176, 3) := by decide +kernel
theorem dc_De_circle_12 : decode cd_De_circle 12 = .ok (.ireturn, 1) := by decide +kernel
theorem dc_De_median_0 : decode cd_De_median 0 = .ok (.iload_n 1, 1) := by decide +kernel
theorem dc_De_median_1 : decode cd_De_median 1 = .ok (.iload_n 2, 1) := by decide +kernel
theorem dc_De_median_2 : decode cd_De_median 2 = .ok (.invokestatic 94, 3) := by decide +kernel
theorem dc_De_median_5 : decode cd_De_median 5 = .ok (.iload_n 3, 1) := by decide +kernel
theorem dc_De_median_6 : decode cd_De_median 6 = .ok (.invokestatic 74, 3) := by decide +kernel
theorem dc_De_median_9 : decode cd_De_median 9 = .ok (.aload_n 0, 1) := by decide +kernel
theorem dc_De_median_10 : decode cd_De_median 10 = .ok (.invokevirtual 168, 3) := by decide +kernel
theorem dc_De_median_13 : decode cd_De_median 13 = .ok (.astore 4, 2) := by decide +kernel
theorem dc_De_median_15 : decode cd_De_median 15 = .ok (.iconst 0, 1) := by decide +kernel
theorem dc_De_median_16 : decode cd_De_median 16 = .ok (.istore 5, 2) := by decide +kernel
theorem dc_De_median_18 : decode cd_De_median 18 = .ok (.ldc 181, 2) := by decide +kernel
theorem dc_De_median_20 : decode cd_De_median 20 = .ok (.istore 6, 2) := by decide +kernel
theorem dc_De_median_22 : decode cd_De_median 22 = .ok (.iconst 0, 1) := by decide +kernel
theorem dc_De_median_23 : decode cd_De_median 23 = .ok (.istore 7, 2) := by decide +kernel
theorem dc_De_median_25 : decode cd_De_median 25 = .ok (.iload 7, 2) := by decide +kernel
theorem dc_De_median_27 : decode cd_De_median 27 = .ok (.aload 4, 2) := by decide +kernel
theorem dc_De_median_29 : decode cd_De_median 29 = .ok (.getfield 182, 3) := by decide +kernel
theorem dc_De_median_32 : decode cd_De_median 32 = .ok (.if_icmp .ge 60, 3) := by decide +kernel
theorem dc_De_median_35 : decode cd_De_median 35 = .ok (.aload 4, 2) := by decide +kernel
theorem dc_De_median_37 : decode cd_De_median 37 = .ok (.iload 7, 2) := by decide +kernel
theorem dc_De_median_39 : decode cd_De_median 39 = .ok (.aload_n 0, 1) := by decide +kernel
theorem dc_De_median_40 : decode cd_De_median 40 = .ok (.getfield 53, 3) := by decide +kernel
theorem dc_De_median_43 : decode cd_De_median 43 = .ok (.invokevirtual 185, 3) := by decide +kernel
theorem dc_De_median_46 : decode cd_De_median 46 = .ok (.aload_n 0, 1) := by decide +kernel
theorem dc_De_median_47 : decode cd_De_median 47 = .ok (.iload_n 1, 1) := by decide +kernel
theorem dc_De_median_48 : decode cd_De_median 48 = .ok (.aload 4, 2) := by decide +kernel
theorem dc_De_median_50 : decode cd_De_median 50 = .ok (.invokevirtual 189, 3) := by decide +kernel
theorem dc_De_median_53 : decode cd_De_median 53 = .ok (.aload_n 0, 1) := by decide +kernel
theorem dc_De_median_54 : decode cd_De_median 54 = .ok (.iload_n 2, 1) := by decide +kernel
theorem dc_De_median_55 : decode cd_De_median 55 = .ok (.aload 4, 2) := by decide +kernel
theorem dc_De_median_57 : decode cd_De_median 57 = .ok (.invokevirtual 189, 3) := by decide +kernel
theorem dc_De_median_60 : decode cd_De_median 60 = .ok (.iadd, 1) := by decide +kernel
theorem dc_De_median_61 : decode cd_De_median 61 = .ok (.aload_n 0, 1) := by decide +kernel
theorem dc_De_median_62 : decode cd_De_median 62 = .ok (.iload_n 3, 1) := by decide +kernel
theorem dc_De_median_63 : decode cd_De_median 63 = .ok (.aload 4, 2) := by decide +kernel
theorem dc_De_median_65 : decode cd_De_median 65 = .ok (.invokevirtual 189, 3) := by decide +kernel
theorem dc_De_median_68 : decode cd_De_median 68 = .ok (.iadd, 1) := by decide +kernel
theorem dc_De_median_69 : decode cd_De_median 69 = .ok (.istore 8, 2) := by decide +kernel
theorem dc_De_median_71 : decode cd_De_median 71 = .ok (.iload 8, 2) := by decide +kernel
theorem dc_De_median_73 : decode cd_De_median 73 = .ok (.iload 6, 2) := by decide +kernel
theorem dc_De_median_75 : decode cd_De_median 75 = .ok (.if_icmp .ge 11, 3) := by decide +kernel
theorem dc_De_median_78 : decode cd_De_median 78 = .ok (.iload 8, 2) := by decide +kernel
theorem dc_De_median_80 : decode cd_De_median 80 = .ok (.istore 6, 2) := by decide +kernel
theorem dc_De_median_82 : decode cd_De_median 82 = .ok (.iload 7, 2) := by decide +kernel
theorem dc_De_median_84 : decode cd_De_median 84 = .ok (.istore 5, 2) := by decide +kernel
theorem dc_De_median_86 : decode cd_De_median 86 = .ok (.iinc 7 1, 3) := by decide +kernel
theorem dc_De_median_89 : decode cd_De_median 89 = .ok (.goto (-64), 3) := by decide +kernel
theorem dc_De_median_92 : decode cd_De_median 92 = .ok (.aload 4, 2) := by decide +kernel
theorem dc_De_median_94 : decode cd_De_median 94 = .ok (.iload 5, 2) := by decide +kernel
theorem dc_De_median_96 : decode cd_De_median 96 = .ok (.aload_n 0, 1) := by decide +kernel
theorem dc_De_median_97 : decode cd_De_median 97 = .ok (.getfield 53, 3) := by decide +kernel
theorem dc_De_median_100 : decode cd_De_median 100 = .ok (.invokevirtual 185, 3) := by decide +kernel
theorem dc_De_median_103 : decode cd_De_median 103 = .ok (.aload_n 0, 1) := by decide +kernel
theorem dc_De_median_104 : decode cd_De_median 104 = .ok (.getfield 15, 3) := by decide +kernel
theorem dc_De_median_107 : decode cd_De_median 107 = .ok (.iconst 4, 1) := by decide +kernel
theorem dc_De_median_108 : decode cd_De_median 108 = .ok (.aaload, 1) := by decide +kernel
theorem dc_De_median_109 : decode cd_De_median 109 = .ok (.aload_n 0, 1) := by decide +kernel
theorem dc_De_median_110 : decode cd_De_median 110 = .ok (.getfield 53, 3) := by decide +kernel
theorem dc_De_median_113 : decode cd_De_median 113 = .ok (.invokevirtual 82, 3) := by decide +kernel
theorem dc_De_median_116 : decode cd_De_median 116 = .ok (.iload 6, 2) := by decide +kernel
theorem dc_De_median_118 : decode cd_De_median 118 = .ok (.ireturn, 1) := by decide +kernel
theorem dc_De_checkSlot_0 : decode cd_De_checkSlot 0 = .ok (.iload_n 0, 1) := by decide +kernel
theorem dc_De_checkSlot_1 : decode cd_De_checkSlot 1 = .ok (.ifCond .lt 8, 3) := by decide +kernel
theorem dc_De_checkSlot_4 : decode cd_De_checkSlot 4 = .ok (.iload_n 0, 1) := by decide +kernel
theorem dc_De_checkSlot_5 : decode cd_De_checkSlot 5 = .ok (.iconst 5, 1) := by decide +kernel
theorem dc_De_checkSlot_6 : decode cd_De_checkSlot 6 = .ok (.if_icmp .lt 13, 3) := by decide +kernel
theorem dc_De_checkSlot_9 : decode cd_De_checkSlot 9 = .ok (.new 86, 3) := by decide +kernel
theorem dc_De_checkSlot_12 : decode cd_De_checkSlot 12 = .ok (.dup, 1) := by decide +kernel
theorem dc_De_checkSlot_13 : decode cd_De_checkSlot 13 = .ok (.ldc 193, 2) := by decide +kernel
theorem dc_De_checkSlot_15 : decode cd_De_checkSlot 15 = .ok (.invokespecial 90, 3) := by decide +kernel
theorem dc_De_checkSlot_18 : decode cd_De_checkSlot 18 = .ok (.athrow, 1) := by decide +kernel
theorem dc_De_checkSlot_19 : decode cd_De_checkSlot 19 = .ok (.return_, 1) := by decide +kernel
theorem dc_De_checkSlots_0 : decode cd_De_checkSlots 0 = .ok (.iload_n 0, 1) := by decide +kernel
theorem dc_De_checkSlots_1 : decode cd_De_checkSlots 1 = .ok (.invokestatic 74, 3) := by decide +kernel
theorem dc_De_checkSlots_4 : decode cd_De_checkSlots 4 = .ok (.iload_n 1, 1) := by decide +kernel
theorem dc_De_checkSlots_5 : decode cd_De_checkSlots 5 = .ok (.invokestatic 74, 3) := by decide +kernel
theorem dc_De_checkSlots_8 : decode cd_De_checkSlots 8 = .ok (.return_, 1) := by decide +kernel
theorem dc_De_drawSlots_0 : decode cd_De_drawSlots 0 = .ok (.aload_n 0, 1) := by decide +kernel
theorem dc_De_drawSlots_1 : decode cd_De_drawSlots 1 = .ok (.aload_n 0, 1) := by decide +kernel
theorem dc_De_drawSlots_2 : decode cd_De_drawSlots 2 = .ok (.getfield 15, 3) := by decide +kernel
theorem dc_De_drawSlots_5 : decode cd_De_drawSlots 5 = .ok (.iload_n 1, 1) := by decide +kernel
theorem dc_De_drawSlots_6 : decode cd_De_drawSlots 6 = .ok (.aaload, 1) := by decide +kernel
theorem dc_De_drawSlots_7 : decode cd_De_drawSlots 7 = .ok (.getfield 91, 3) := by decide +kernel
theorem dc_De_drawSlots_10 : decode cd_De_drawSlots 10 = .ok (.aload_n 0, 1) := by decide +kernel
theorem dc_De_drawSlots_11 : decode cd_De_drawSlots 11 = .ok (.getfield 15, 3) := by decide +kernel
theorem dc_De_drawSlots_14 : decode cd_De_drawSlots 14 = .ok (.iload_n 2, 1) := by decide +kernel
theorem dc_De_drawSlots_15 : decode cd_De_drawSlots 15 = .ok (.aaload, 1) := by decide +kernel
theorem dc_De_drawSlots_16 : decode cd_De_drawSlots 16 = .ok (.getfield 91, 3) := by decide +kernel
theorem dc_De_drawSlots_19 : decode cd_De_drawSlots 19 = .ok (.invokevirtual 141, 3) := by decide +kernel
theorem dc_De_drawSlots_22 : decode cd_De_drawSlots 22 = .ok (.aload_n 0, 1) := by decide +kernel
theorem dc_De_drawSlots_23 : decode cd_De_drawSlots 23 = .ok (.getfield 30, 3) := by decide +kernel
theorem dc_De_drawSlots_26 : decode cd_De_drawSlots 26 = .ok (.aload_n 0, 1) := by decide +kernel
theorem dc_De_drawSlots_27 : decode cd_De_drawSlots 27 = .ok (.getfield 50, 3) := by decide +kernel
theorem dc_De_drawSlots_30 : decode cd_De_drawSlots 30 = .ok (.aload_n 0, 1) := by decide +kernel
theorem dc_De_drawSlots_31 : decode cd_De_drawSlots 31 = .ok (.getfield 9, 3) := by decide +kernel
theorem dc_De_drawSlots_34 : decode cd_De_drawSlots 34 = .ok (.invokevirtual 195, 3) := by decide +kernel
theorem dc_De_drawSlots_37 : decode cd_De_drawSlots 37 = .ok (.return_, 1) := by decide +kernel
theorem dc_De_relate_0 : decode cd_De_relate 0 = .ok (.iconst 0, 1) := by decide +kernel
theorem dc_De_relate_1 : decode cd_De_relate 1 = .ok (.istore_n 3, 1) := by decide +kernel
theorem dc_De_relate_2 : decode cd_De_relate 2 = .ok (.iload_n 3, 1) := by decide +kernel
theorem dc_De_relate_3 : decode cd_De_relate 3 = .ok (.aload_n 0, 1) := by decide +kernel
theorem dc_De_relate_4 : decode cd_De_relate 4 = .ok (.getfield 9, 3) := by decide +kernel
theorem dc_De_relate_7 : decode cd_De_relate 7 = .ok (.if_icmp .ge 39, 3) := by decide +kernel
theorem dc_De_relate_10 : decode cd_De_relate 10 = .ok (.aload_n 2, 1) := by decide +kernel
theorem dc_De_relate_11 : decode cd_De_relate 11 = .ok (.iload_n 3, 1) := by decide +kernel
theorem dc_De_relate_12 : decode cd_De_relate 12 = .ok (.iaload, 1) := by decide +kernel
theorem dc_De_relate_13 : decode cd_De_relate 13 = .ok (.istore 4, 2) := by decide +kernel
theorem dc_De_relate_15 : decode cd_De_relate 15 = .ok (.aload_n 0, 1) := by decide +kernel
theorem dc_De_relate_16 : decode cd_De_relate 16 = .ok (.getfield 47, 3) := by decide +kernel
theorem dc_De_relate_19 : decode cd_De_relate 19 = .ok (.iload 4, 2) := by decide +kernel
theorem dc_De_relate_21 : decode cd_De_relate 21 = .ok (.invokestatic 145, 3) := by decide +kernel
theorem dc_De_relate_24 : decode cd_De_relate 24 = .ok (.iload 4, 2) := by decide +kernel
theorem dc_De_relate_26 : decode cd_De_relate 26 = .ok (.ifCond .le 9, 3) := by decide +kernel
theorem dc_De_relate_29 : decode cd_De_relate 29 = .ok (.iload_n 3, 1) := by decide +kernel
theorem dc_De_relate_30 : decode cd_De_relate 30 = .ok (.iconst 1, 1) := by decide +kernel
theorem dc_De_relate_31 : decode cd_De_relate 31 = .ok (.iadd, 1) := by decide +kernel
theorem dc_De_relate_32 : decode cd_De_relate 32 = .ok (.goto 7, 3) := by decide +kernel
theorem dc_De_relate_35 : decode cd_De_relate 35 = .ok (.iload_n 3, 1) := by decide +kernel
theorem dc_De_relate_36 : decode cd_De_relate 36 = .ok (.ineg, 1) := by decide +kernel
theorem dc_De_relate_37 : decode cd_De_relate 37 = .ok (.iconst 1, 1) := by decide +kernel
theorem dc_De_relate_38 : decode cd_De_relate 38 = .ok (.isub, 1) := by decide +kernel
theorem dc_De_relate_39 : decode cd_De_relate 39 = .ok (.iastore, 1) := by decide +kernel
theorem dc_De_relate_40 : decode cd_De_relate 40 = .ok (.iinc 3 1, 3) := by decide +kernel
theorem dc_De_relate_43 : decode cd_De_relate 43 = .ok (.goto (-41), 3) := by decide +kernel
theorem dc_De_relate_46 : decode cd_De_relate 46 = .ok (.iconst 0, 1) := by decide +kernel
theorem dc_De_relate_47 : decode cd_De_relate 47 = .ok (.istore_n 3, 1) := by decide +kernel
theorem dc_De_relate_48 : decode cd_De_relate 48 = .ok (.iload_n 3, 1) := by decide +kernel
theorem dc_De_relate_49 : decode cd_De_relate 49 = .ok (.aload_n 0, 1) := by decide +kernel
theorem dc_De_relate_50 : decode cd_De_relate 50 = .ok (.getfield 9, 3) := by decide +kernel
theorem dc_De_relate_53 : decode cd_De_relate 53 = .ok (.if_icmp .ge 44, 3) := by decide +kernel
theorem dc_De_relate_56 : decode cd_De_relate 56 = .ok (.aload_n 1, 1) := by decide +kernel
theorem dc_De_relate_57 : decode cd_De_relate 57 = .ok (.iload_n 3, 1) := by decide +kernel
theorem dc_De_relate_58 : decode cd_De_relate 58 = .ok (.iaload, 1) := by decide +kernel
theorem dc_De_relate_59 : decode cd_De_relate 59 = .ok (.istore 4, 2) := by decide +kernel
theorem dc_De_relate_61 : decode cd_De_relate 61 = .ok (.aload_n 0, 1) := by decide +kernel
theorem dc_De_relate_62 : decode cd_De_relate 62 = .ok (.getfield 50, 3) := by decide +kernel
theorem dc_De_relate_65 : decode cd_De_relate 65 = .ok (.iload_n 3, 1) := by decide +kernel
theorem dc_De_relate_66 : decode cd_De_relate 66 = .ok (.iload 4, 2) := by decide +kernel
theorem dc_De_relate_68 : decode cd_De_relate 68 = .ok (.ifCond .le 13, 3) := by decide +kernel
theorem dc_De_relate_71 : decode cd_De_relate 71 = .ok (.aload_n 0, 1) := by decide +kernel
theorem dc_De_relate_72 : decode cd_De_relate 72 = .ok (.getfield 47, 3) := by decide +kernel
theorem dc_De_relate_75 : decode cd_De_relate 75 = .ok (.iload 4, 2) := by decide +kernel
theorem dc_De_relate_77 : decode cd_De_relate 77 = .ok (.iaload, 1) := by decide +kernel
theorem dc_De_relate_78 : decode cd_De_relate 78 = .ok (.goto 12, 3) := by decide +kernel
theorem dc_De_relate_81 : decode cd_De_relate 81 = .ok (.aload_n 0, 1) := by decide +kernel
theorem dc_De_relate_82 : decode cd_De_relate 82 = .ok (.getfield 47, 3) := by decide +kernel
theorem dc_De_relate_85 : decode cd_De_relate 85 = .ok (.iload 4, 2) := by decide +kernel
theorem dc_De_relate_87 : decode cd_De_relate 87 = .ok (.ineg, 1) := by decide +kernel
theorem dc_De_relate_88 : decode cd_De_relate 88 = .ok (.iaload, 1) := by decide +kernel
theorem dc_De_relate_89 : decode cd_De_relate 89 = .ok (.ineg, 1) := by decide +kernel
theorem dc_De_relate_90 : decode cd_De_relate 90 = .ok (.iastore, 1) := by decide +kernel
theorem dc_De_relate_91 : decode cd_De_relate 91 = .ok (.iinc 3 1, 3) := by decide +kernel
theorem dc_De_relate_94 : decode cd_De_relate 94 = .ok (.goto (-46), 3) := by decide +kernel
theorem dc_De_relate_97 : decode cd_De_relate 97 = .ok (.return_, 1) := by decide +kernel
theorem dc_De_turnNearer_0 : decode cd_De_turnNearer 0 = .ok (.iconst 0, 1) := by decide +kernel
theorem dc_De_turnNearer_1 : decode cd_De_turnNearer 1 = .ok (.istore_n 2, 1) := by decide +kernel
theorem dc_De_turnNearer_2 : decode cd_De_turnNearer 2 = .ok (.iload_n 2, 1) := by decide +kernel
theorem dc_De_turnNearer_3 : decode cd_De_turnNearer 3 = .ok (.aload_n 0, 1) := by decide +kernel
theorem dc_De_turnNearer_4 : decode cd_De_turnNearer 4 = .ok (.getfield 9, 3) := by decide +kernel
theorem dc_De_turnNearer_7 : decode cd_De_turnNearer 7 = .ok (.if_icmp .ge 76, 3) := by decide +kernel
theorem dc_De_turnNearer_10 : decode cd_De_turnNearer 10 = .ok (.iload_n 2, 1) := by decide +kernel
theorem dc_De_turnNearer_11 : decode cd_De_turnNearer 11 = .ok (.istore_n 3, 1) := by decide +kernel
theorem dc_De_turnNearer_12 : decode cd_De_turnNearer 12 = .ok (.iload_n 3, 1) := by decide +kernel
theorem dc_De_turnNearer_13 : decode cd_De_turnNearer 13 = .ok (.aload_n 0, 1) := by decide +kernel
theorem dc_De_turnNearer_14 : decode cd_De_turnNearer 14 = .ok (.getfield 9, 3) := by decide +kernel
theorem dc_De_turnNearer_17 : decode cd_De_turnNearer 17 = .ok (.if_icmp .ge 60, 3) := by decide +kernel
theorem dc_De_turnNearer_20 : decode cd_De_turnNearer 20 = .ok (.aload_n 0, 1) := by decide +kernel
theorem dc_De_turnNearer_21 : decode cd_De_turnNearer 21 = .ok (.getfield 50, 3) := by decide +kernel
theorem dc_De_turnNearer_24 : decode cd_De_turnNearer 24 = .ok (.iload_n 2, 1) := by decide +kernel
theorem dc_De_turnNearer_25 : decode cd_De_turnNearer 25 = .ok (.iload_n 3, 1) := by decide +kernel
theorem dc_De_turnNearer_26 : decode cd_De_turnNearer 26 = .ok (.invokestatic 199, 3) := by decide +kernel
theorem dc_De_turnNearer_29 : decode cd_De_turnNearer 29 = .ok (.aload_n 0, 1) := by decide +kernel
theorem dc_De_turnNearer_30 : decode cd_De_turnNearer 30 = .ok (.getfield 30, 3) := by decide +kernel
theorem dc_De_turnNearer_33 : decode cd_De_turnNearer 33 = .ok (.aload_n 0, 1) := by decide +kernel
theorem dc_De_turnNearer_34 : decode cd_De_turnNearer 34 = .ok (.getfield 50, 3) := by decide +kernel
theorem dc_De_turnNearer_37 : decode cd_De_turnNearer 37 = .ok (.aload_n 0, 1) := by decide +kernel
theorem dc_De_turnNearer_38 : decode cd_De_turnNearer 38 = .ok (.getfield 9, 3) := by decide +kernel
theorem dc_De_turnNearer_41 : decode cd_De_turnNearer 41 = .ok (.invokevirtual 195, 3) := by decide +kernel
theorem dc_De_turnNearer_44 : decode cd_De_turnNearer 44 = .ok (.aload_n 0, 1) := by decide +kernel
theorem dc_De_turnNearer_45 : decode cd_De_turnNearer 45 = .ok (.getfield 30, 3) := by decide +kernel
theorem dc_De_turnNearer_48 : decode cd_De_turnNearer 48 = .ok (.invokevirtual 110, 3) := by decide +kernel
theorem dc_De_turnNearer_51 : decode cd_De_turnNearer 51 = .ok (.iload_n 1, 1) := by decide +kernel
theorem dc_De_turnNearer_52 : decode cd_De_turnNearer 52 = .ok (.if_icmp .ne 10, 3) := by decide +kernel
theorem dc_De_turnNearer_55 : decode cd_De_turnNearer 55 = .ok (.bipush 10, 2) := by decide +kernel
theorem dc_De_turnNearer_57 : decode cd_De_turnNearer 57 = .ok (.iload_n 2, 1) := by decide +kernel
theorem dc_De_turnNearer_58 : decode cd_De_turnNearer 58 = .ok (.imul, 1) := by decide +kernel
theorem dc_De_turnNearer_59 : decode cd_De_turnNearer 59 = .ok (.iload_n 3, 1) := by decide +kernel
theorem dc_De_turnNearer_60 : decode cd_De_turnNearer 60 = .ok (.iadd, 1) := by decide +kernel
theorem dc_De_turnNearer_61 : decode cd_De_turnNearer 61 = .ok (.ireturn, 1) := by decide +kernel
theorem dc_De_turnNearer_62 : decode cd_De_turnNearer 62 = .ok (.aload_n 0, 1) := by decide +kernel
theorem dc_De_turnNearer_63 : decode cd_De_turnNearer 63 = .ok (.getfield 50, 3) := by decide +kernel
theorem dc_De_turnNearer_66 : decode cd_De_turnNearer 66 = .ok (.iload_n 2, 1) := by decide +kernel
theorem dc_De_turnNearer_67 : decode cd_De_turnNearer 67 = .ok (.iload_n 3, 1) := by decide +kernel
theorem dc_De_turnNearer_68 : decode cd_De_turnNearer 68 = .ok (.invokestatic 199, 3) := by decide +kernel
theorem dc_De_turnNearer_71 : decode cd_De_turnNearer 71 = .ok (.iinc 3 1, 3) := by decide +kernel
theorem dc_De_turnNearer_74 : decode cd_De_turnNearer 74 = .ok (.goto (-62), 3) := by decide +kernel
theorem dc_De_turnNearer_77 : decode cd_De_turnNearer 77 = .ok (.iinc 2 1, 3) := by decide +kernel
theorem dc_De_turnNearer_80 : decode cd_De_turnNearer 80 = .ok (.goto (-78), 3) := by decide +kernel
theorem dc_De_turnNearer_83 : decode cd_De_turnNearer 83 = .ok (.iconst (-1), 1) := by decide +kernel
theorem dc_De_turnNearer_84 : decode cd_De_turnNearer 84 = .ok (.ireturn, 1) := by decide +kernel
