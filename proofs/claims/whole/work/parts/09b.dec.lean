theorem dX9_init_0 : decode cX9_init 0 = .ok (.aload_n 0, 1) := by decide +kernel
theorem dX9_init_1 : decode cX9_init 1 = .ok (.invokespecial 1, 3) := by decide +kernel
theorem dX9_init_4 : decode cX9_init 4 = .ok (.aload_n 0, 1) := by decide +kernel
theorem dX9_init_5 : decode cX9_init 5 = .ok (.iconst 3, 1) := by decide +kernel
theorem dX9_init_6 : decode cX9_init 6 = .ok (.anewarray 7, 3) := by decide +kernel
theorem dX9_init_9 : decode cX9_init 9 = .ok (.dup, 1) := by decide +kernel
theorem dX9_init_10 : decode cX9_init 10 = .ok (.iconst 0, 1) := by decide +kernel
theorem dX9_init_11 : decode cX9_init 11 = .ok (.new 7, 3) := by decide +kernel
theorem dX9_init_14 : decode cX9_init 14 = .ok (.dup, 1) := by decide +kernel
theorem dX9_init_15 : decode cX9_init 15 = .ok (.invokespecial 9, 3) := by decide +kernel
theorem dX9_init_18 : decode cX9_init 18 = .ok (.aastore, 1) := by decide +kernel
theorem dX9_init_19 : decode cX9_init 19 = .ok (.dup, 1) := by decide +kernel
theorem dX9_init_20 : decode cX9_init 20 = .ok (.iconst 1, 1) := by decide +kernel
theorem dX9_init_21 : decode cX9_init 21 = .ok (.new 7, 3) := by decide +kernel
theorem dX9_init_24 : decode cX9_init 24 = .ok (.dup, 1) := by decide +kernel
theorem dX9_init_25 : decode cX9_init 25 = .ok (.invokespecial 9, 3) := by decide +kernel
theorem dX9_init_28 : decode cX9_init 28 = .ok (.aastore, 1) := by decide +kernel
theorem dX9_init_29 : decode cX9_init 29 = .ok (.dup, 1) := by decide +kernel
theorem dX9_init_30 : decode cX9_init 30 = .ok (.iconst 2, 1) := by decide +kernel
theorem dX9_init_31 : decode cX9_init 31 = .ok (.new 7, 3) := by decide +kernel
theorem dX9_init_34 : decode cX9_init 34 = .ok (.dup, 1) := by decide +kernel
theorem dX9_init_35 : decode cX9_init 35 = .ok (.invokespecial 9, 3) := by decide +kernel
theorem dX9_init_38 : decode cX9_init 38 = .ok (.aastore, 1) := by decide +kernel
theorem dX9_init_39 : decode cX9_init 39 = .ok (.putfield 10, 3) := by decide +kernel
theorem dX9_init_42 : decode cX9_init 42 = .ok (.aload_n 0, 1) := by decide +kernel
theorem dX9_init_43 : decode cX9_init 43 = .ok (.iconst 5, 1) := by decide +kernel
theorem dX9_init_44 : decode cX9_init 44 = .ok (.newarray .int, 2) := by decide +kernel
theorem dX9_init_46 : decode cX9_init 46 = .ok (.putfield 16, 3) := by decide +kernel
theorem dX9_init_49 : decode cX9_init 49 = .ok (.aload_n 0, 1) := by decide +kernel
theorem dX9_init_50 : decode cX9_init 50 = .ok (.iconst 5, 1) := by decide +kernel
theorem dX9_init_51 : decode cX9_init 51 = .ok (.newarray .int, 2) := by decide +kernel
theorem dX9_init_53 : decode cX9_init 53 = .ok (.putfield 20, 3) := by decide +kernel
theorem dX9_init_56 : decode cX9_init 56 = .ok (.aload_n 0, 1) := by decide +kernel
theorem dX9_init_57 : decode cX9_init 57 = .ok (.iconst 5, 1) := by decide +kernel
theorem dX9_init_58 : decode cX9_init 58 = .ok (.newarray .int, 2) := by decide +kernel
theorem dX9_init_60 : decode cX9_init 60 = .ok (.putfield 23, 3) := by decide +kernel
theorem dX9_init_63 : decode cX9_init 63 = .ok (.aload_n 0, 1) := by decide +kernel
theorem dX9_init_64 : decode cX9_init 64 = .ok (.new 26, 3) := by decide +kernel
theorem dX9_init_67 : decode cX9_init 67 = .ok (.dup, 1) := by decide +kernel
theorem dX9_init_68 : decode cX9_init 68 = .ok (.invokespecial 28, 3) := by decide +kernel
theorem dX9_init_71 : decode cX9_init 71 = .ok (.putfield 29, 3) := by decide +kernel
theorem dX9_init_74 : decode cX9_init 74 = .ok (.aload_n 0, 1) := by decide +kernel
theorem dX9_init_75 : decode cX9_init 75 = .ok (.new 33, 3) := by decide +kernel
theorem dX9_init_78 : decode cX9_init 78 = .ok (.dup, 1) := by decide +kernel
theorem dX9_init_79 : decode cX9_init 79 = .ok (.invokespecial 35, 3) := by decide +kernel
theorem dX9_init_82 : decode cX9_init 82 = .ok (.putfield 36, 3) := by decide +kernel
theorem dX9_init_85 : decode cX9_init 85 = .ok (.aload_n 0, 1) := by decide +kernel
theorem dX9_init_86 : decode cX9_init 86 = .ok (.new 40, 3) := by decide +kernel
theorem dX9_init_89 : decode cX9_init 89 = .ok (.dup, 1) := by decide +kernel
theorem dX9_init_90 : decode cX9_init 90 = .ok (.invokespecial 42, 3) := by decide +kernel
theorem dX9_init_93 : decode cX9_init 93 = .ok (.putfield 43, 3) := by decide +kernel
theorem dX9_init_96 : decode cX9_init 96 = .ok (.aload_n 0, 1) := by decide +kernel
theorem dX9_init_97 : decode cX9_init 97 = .ok (.new 47, 3) := by decide +kernel
theorem dX9_init_100 : decode cX9_init 100 = .ok (.dup, 1) := by decide +kernel
theorem dX9_init_101 : decode cX9_init 101 = .ok (.invokespecial 49, 3) := by decide +kernel
theorem dX9_init_104 : decode cX9_init 104 = .ok (.putfield 50, 3) := by decide +kernel
theorem dX9_init_107 : decode cX9_init 107 = .ok (.aload_n 0, 1) := by decide +kernel
theorem dX9_init_108 : decode cX9_init 108 = .ok (.new 26, 3) := by decide +kernel
theorem dX9_init_111 : decode cX9_init 111 = .ok (.dup, 1) := by decide +kernel
theorem dX9_init_112 : decode cX9_init 112 = .ok (.invokespecial 28, 3) := by decide +kernel
theorem dX9_init_115 : decode cX9_init 115 = .ok (.putfield 54, 3) := by decide +kernel
theorem dX9_init_118 : decode cX9_init 118 = .ok (.aload_n 0, 1) := by decide +kernel
theorem dX9_init_119 : decode cX9_init 119 = .ok (.new 57, 3) := by decide +kernel
theorem dX9_init_122 : decode cX9_init 122 = .ok (.dup, 1) := by decide +kernel
theorem dX9_init_123 : decode cX9_init 123 = .ok (.invokespecial 59, 3) := by decide +kernel
theorem dX9_init_126 : decode cX9_init 126 = .ok (.putfield 60, 3) := by decide +kernel
theorem dX9_init_129 : decode cX9_init 129 = .ok (.aload_n 0, 1) := by decide +kernel
theorem dX9_init_130 : decode cX9_init 130 = .ok (.iconst 5, 1) := by decide +kernel
theorem dX9_init_131 : decode cX9_init 131 = .ok (.newarray .int, 2) := by decide +kernel
theorem dX9_init_133 : decode cX9_init 133 = .ok (.putfield 64, 3) := by decide +kernel
theorem dX9_init_136 : decode cX9_init 136 = .ok (.return_, 1) := by decide +kernel
theorem dX9_sheet_0 : decode cX9_sheet 0 = .ok (.aload_n 0, 1) := by decide +kernel
theorem dX9_sheet_1 : decode cX9_sheet 1 = .ok (.iload_n 1, 1) := by decide +kernel
theorem dX9_sheet_2 : decode cX9_sheet 2 = .ok (.invokevirtual 67, 3) := by decide +kernel
theorem dX9_sheet_5 : decode cX9_sheet 5 = .ok (.astore 4, 2) := by decide +kernel
theorem dX9_sheet_7 : decode cX9_sheet 7 = .ok (.aload 4, 2) := by decide +kernel
theorem dX9_sheet_9 : decode cX9_sheet 9 = .ok (.ifnull 12, 3) := by decide +kernel
theorem dX9_sheet_12 : decode cX9_sheet 12 = .ok (.iload_n 2, 1) := by decide +kernel
theorem dX9_sheet_13 : decode cX9_sheet 13 = .ok (.ifCond .lt 8, 3) := by decide +kernel
theorem dX9_sheet_16 : decode cX9_sheet 16 = .ok (.iload_n 2, 1) := by decide +kernel
theorem dX9_sheet_17 : decode cX9_sheet 17 = .ok (.iconst 2, 1) := by decide +kernel
theorem dX9_sheet_18 : decode cX9_sheet 18 = .ok (.if_icmp .le 5, 3) := by decide +kernel
theorem dX9_sheet_21 : decode cX9_sheet 21 = .ok (.iconst (-1), 1) := by decide +kernel
theorem dX9_sheet_22 : decode cX9_sheet 22 = .ok (.ireturn, 1) := by decide +kernel
theorem dX9_sheet_23 : decode cX9_sheet 23 = .ok (.iload_n 3, 1) := by decide +kernel
theorem dX9_sheet_24 : decode cX9_sheet 24 = .ok (.ifCond .ge 6, 3) := by decide +kernel
theorem dX9_sheet_27 : decode cX9_sheet 27 = .ok (.bipush (-4), 2) := by decide +kernel
theorem dX9_sheet_29 : decode cX9_sheet 29 = .ok (.ireturn, 1) := by decide +kernel
theorem dX9_sheet_30 : decode cX9_sheet 30 = .ok (.iload_n 3, 1) := by decide +kernel
theorem dX9_sheet_31 : decode cX9_sheet 31 = .ok (.bipush 20, 2) := by decide +kernel
theorem dX9_sheet_33 : decode cX9_sheet 33 = .ok (.if_icmp .le 5, 3) := by decide +kernel
theorem dX9_sheet_36 : decode cX9_sheet 36 = .ok (.iconst (-1), 1) := by decide +kernel
theorem dX9_sheet_37 : decode cX9_sheet 37 = .ok (.ireturn, 1) := by decide +kernel
theorem dX9_sheet_38 : decode cX9_sheet 38 = .ok (.aload 4, 2) := by decide +kernel
theorem dX9_sheet_40 : decode cX9_sheet 40 = .ok (.iload_n 2, 1) := by decide +kernel
theorem dX9_sheet_41 : decode cX9_sheet 41 = .ok (.iload_n 3, 1) := by decide +kernel
theorem dX9_sheet_42 : decode cX9_sheet 42 = .ok (.invokevirtual 71, 3) := by decide +kernel
theorem dX9_sheet_45 : decode cX9_sheet 45 = .ok (.iconst 1, 1) := by decide +kernel
theorem dX9_sheet_46 : decode cX9_sheet 46 = .ok (.ireturn, 1) := by decide +kernel
theorem dX9_cell_0 : decode cX9_cell 0 = .ok (.aload_n 0, 1) := by decide +kernel
theorem dX9_cell_1 : decode cX9_cell 1 = .ok (.iload_n 1, 1) := by decide +kernel
theorem dX9_cell_2 : decode cX9_cell 2 = .ok (.invokevirtual 67, 3) := by decide +kernel
theorem dX9_cell_5 : decode cX9_cell 5 = .ok (.astore 4, 2) := by decide +kernel
theorem dX9_cell_7 : decode cX9_cell 7 = .ok (.aload 4, 2) := by decide +kernel
theorem dX9_cell_9 : decode cX9_cell 9 = .ok (.ifnonnull 5, 3) := by decide +kernel
theorem dX9_cell_12 : decode cX9_cell 12 = .ok (.iconst (-1), 1) := by decide +kernel
theorem dX9_cell_13 : decode cX9_cell 13 = .ok (.ireturn, 1) := by decide +kernel
theorem dX9_cell_14 : decode cX9_cell 14 = .ok (.aload 4, 2) := by decide +kernel
theorem dX9_cell_16 : decode cX9_cell 16 = .ok (.getfield 75, 3) := by decide +kernel
theorem dX9_cell_19 : decode cX9_cell 19 = .ok (.ifCond .ne 6, 3) := by decide +kernel
theorem dX9_cell_22 : decode cX9_cell 22 = .ok (.bipush (-3), 2) := by decide +kernel
theorem dX9_cell_24 : decode cX9_cell 24 = .ok (.ireturn, 1) := by decide +kernel
theorem dX9_cell_25 : decode cX9_cell 25 = .ok (.aload 4, 2) := by decide +kernel
theorem dX9_cell_27 : decode cX9_cell 27 = .ok (.iload_n 2, 1) := by decide +kernel
theorem dX9_cell_28 : decode cX9_cell 28 = .ok (.invokevirtual 79, 3) := by decide +kernel
theorem dX9_cell_31 : decode cX9_cell 31 = .ok (.ifCond .ne 5, 3) := by decide +kernel
theorem dX9_cell_34 : decode cX9_cell 34 = .ok (.iconst (-1), 1) := by decide +kernel
theorem dX9_cell_35 : decode cX9_cell 35 = .ok (.ireturn, 1) := by decide +kernel
theorem dX9_cell_36 : decode cX9_cell 36 = .ok (.aload 4, 2) := by decide +kernel
theorem dX9_cell_38 : decode cX9_cell 38 = .ok (.iload_n 2, 1) := by decide +kernel
theorem dX9_cell_39 : decode cX9_cell 39 = .ok (.iload_n 3, 1) := by decide +kernel
theorem dX9_cell_40 : decode cX9_cell 40 = .ok (.invokevirtual 83, 3) := by decide +kernel
theorem dX9_cell_43 : decode cX9_cell 43 = .ok (.iconst 1, 1) := by decide +kernel
theorem dX9_cell_44 : decode cX9_cell 44 = .ok (.ireturn, 1) := by decide +kernel
theorem dX9_lose_0 : decode cX9_lose 0 = .ok (.aload_n 0, 1) := by decide +kernel
theorem dX9_lose_1 : decode cX9_lose 1 = .ok (.iload_n 1, 1) := by decide +kernel
theorem dX9_lose_2 : decode cX9_lose 2 = .ok (.invokevirtual 67, 3) := by decide +kernel
theorem dX9_lose_5 : decode cX9_lose 5 = .ok (.astore_n 2, 1) := by decide +kernel
theorem dX9_lose_6 : decode cX9_lose 6 = .ok (.aload_n 2, 1) := by decide +kernel
theorem dX9_lose_7 : decode cX9_lose 7 = .ok (.ifnonnull 5, 3) := by decide +kernel
theorem dX9_lose_10 : decode cX9_lose 10 = .ok (.iconst (-1), 1) := by decide +kernel
theorem dX9_lose_11 : decode cX9_lose 11 = .ok (.ireturn, 1) := by decide +kernel
theorem dX9_lose_12 : decode cX9_lose 12 = .ok (.aload_n 2, 1) := by decide +kernel
theorem dX9_lose_13 : decode cX9_lose 13 = .ok (.getfield 75, 3) := by decide +kernel
theorem dX9_lose_16 : decode cX9_lose 16 = .ok (.ifCond .ne 6, 3) := by decide +kernel
theorem dX9_lose_19 : decode cX9_lose 19 = .ok (.bipush (-3), 2) := by decide +kernel
theorem dX9_lose_21 : decode cX9_lose 21 = .ok (.ireturn, 1) := by decide +kernel
theorem dX9_lose_22 : decode cX9_lose 22 = .ok (.aload_n 2, 1) := by decide +kernel
theorem dX9_lose_23 : decode cX9_lose 23 = .ok (.iconst 0, 1) := by decide +kernel
theorem dX9_lose_24 : decode cX9_lose 24 = .ok (.putfield 75, 3) := by decide +kernel
theorem dX9_lose_27 : decode cX9_lose 27 = .ok (.iconst 1, 1) := by decide +kernel
theorem dX9_lose_28 : decode cX9_lose 28 = .ok (.ireturn, 1) := by decide +kernel
theorem dX9_hits_0 : decode cX9_hits 0 = .ok (.iload_n 1, 1) := by decide +kernel
theorem dX9_hits_1 : decode cX9_hits 1 = .ok (.invokestatic 86, 3) := by decide +kernel
theorem dX9_hits_4 : decode cX9_hits 4 = .ok (.ifCond .eq 10, 3) := by decide +kernel
theorem dX9_hits_7 : decode cX9_hits 7 = .ok (.iload_n 2, 1) := by decide +kernel
theorem dX9_hits_8 : decode cX9_hits 8 = .ok (.invokestatic 89, 3) := by decide +kernel
theorem dX9_hits_11 : decode cX9_hits 11 = .ok (.ifCond .ne 5, 3) := by decide +kernel
theorem dX9_hits_14 : decode cX9_hits 14 = .ok (.iconst (-1), 1) := by decide +kernel
theorem dX9_hits_15 : decode cX9_hits 15 = .ok (.ireturn, 1) := by decide +kernel
theorem dX9_hits_16 : decode cX9_hits 16 = .ok (.aload_n 0, 1) := by decide +kernel
theorem dX9_hits_17 : decode cX9_hits 17 = .ok (.getfield 16, 3) := by decide +kernel
theorem dX9_hits_20 : decode cX9_hits 20 = .ok (.iload_n 1, 1) := by decide +kernel
theorem dX9_hits_21 : decode cX9_hits 21 = .ok (.iload_n 2, 1) := by decide +kernel
theorem dX9_hits_22 : decode cX9_hits 22 = .ok (.iastore, 1) := by decide +kernel
theorem dX9_hits_23 : decode cX9_hits 23 = .ok (.iload_n 2, 1) := by decide +kernel
theorem dX9_hits_24 : decode cX9_hits 24 = .ok (.invokestatic 92, 3) := by decide +kernel
theorem dX9_hits_27 : decode cX9_hits 27 = .ok (.ireturn, 1) := by decide +kernel
theorem dX9_load_0 : decode cX9_load 0 = .ok (.aload_n 0, 1) := by decide +kernel
theorem dX9_load_1 : decode cX9_load 1 = .ok (.iload_n 1, 1) := by decide +kernel
theorem dX9_load_2 : decode cX9_load 2 = .ok (.invokevirtual 67, 3) := by decide +kernel
theorem dX9_load_5 : decode cX9_load 5 = .ok (.astore_n 3, 1) := by decide +kernel
theorem dX9_load_6 : decode cX9_load 6 = .ok (.aload_n 3, 1) := by decide +kernel
theorem dX9_load_7 : decode cX9_load 7 = .ok (.ifnull 7, 3) := by decide +kernel
theorem dX9_load_10 : decode cX9_load 10 = .ok (.iload_n 2, 1) := by decide +kernel
theorem dX9_load_11 : decode cX9_load 11 = .ok (.ifCond .ge 5, 3) := by decide +kernel
theorem dX9_load_14 : decode cX9_load 14 = .ok (.iconst (-1), 1) := by decide +kernel
theorem dX9_load_15 : decode cX9_load 15 = .ok (.ireturn, 1) := by decide +kernel
theorem dX9_load_16 : decode cX9_load 16 = .ok (.aload_n 3, 1) := by decide +kernel
theorem dX9_load_17 : decode cX9_load 17 = .ok (.getfield 75, 3) := by decide +kernel
theorem dX9_load_20 : decode cX9_load 20 = .ok (.ifCond .ne 6, 3) := by decide +kernel
theorem dX9_load_23 : decode cX9_load 23 = .ok (.bipush (-3), 2) := by decide +kernel
theorem dX9_load_25 : decode cX9_load 25 = .ok (.ireturn, 1) := by decide +kernel
theorem dX9_load_26 : decode cX9_load 26 = .ok (.iconst 0, 1) := by decide +kernel
theorem dX9_load_27 : decode cX9_load 27 = .ok (.istore 4, 2) := by decide +kernel
theorem dX9_load_29 : decode cX9_load 29 = .ok (.iload 4, 2) := by decide +kernel
theorem dX9_load_31 : decode cX9_load 31 = .ok (.iconst 5, 1) := by decide +kernel
theorem dX9_load_32 : decode cX9_load 32 = .ok (.if_icmp .ge 27, 3) := by decide +kernel
theorem dX9_load_35 : decode cX9_load 35 = .ok (.aload_n 0, 1) := by decide +kernel
theorem dX9_load_36 : decode cX9_load 36 = .ok (.getfield 16, 3) := by decide +kernel
theorem dX9_load_39 : decode cX9_load 39 = .ok (.iload 4, 2) := by decide +kernel
theorem dX9_load_41 : decode cX9_load 41 = .ok (.aload_n 3, 1) := by decide +kernel
theorem dX9_load_42 : decode cX9_load 42 = .ok (.iload_n 2, 1) := by decide +kernel
theorem dX9_load_43 : decode cX9_load 43 = .ok (.iload 4, 2) := by decide +kernel
theorem dX9_load_45 : decode cX9_load 45 = .ok (.iadd, 1) := by decide +kernel
theorem dX9_load_46 : decode cX9_load 46 = .ok (.invokevirtual 98, 3) := by decide +kernel
theorem dX9_load_49 : decode cX9_load 49 = .ok (.ldc 101, 2) := by decide +kernel
theorem dX9_load_51 : decode cX9_load 51 = .ok (.iand, 1) := by decide +kernel
theorem dX9_load_52 : decode cX9_load 52 = .ok (.iastore, 1) := by decide +kernel
theorem dX9_load_53 : decode cX9_load 53 = .ok (.iinc 4 1, 3) := by decide +kernel
theorem dX9_load_56 : decode cX9_load 56 = .ok (.goto (-27), 3) := by decide +kernel
theorem dX9_load_59 : decode cX9_load 59 = .ok (.aload_n 0, 1) := by decide +kernel
theorem dX9_load_60 : decode cX9_load 60 = .ok (.getfield 16, 3) := by decide +kernel
theorem dX9_load_63 : decode cX9_load 63 = .ok (.invokestatic 102, 3) := by decide +kernel
theorem dX9_load_66 : decode cX9_load 66 = .ok (.ireturn, 1) := by decide +kernel
theorem dX9_mask_0 : decode cX9_mask 0 = .ok (.iload_n 1, 1) := by decide +kernel
theorem dX9_mask_1 : decode cX9_mask 1 = .ok (.invokestatic 86, 3) := by decide +kernel
theorem dX9_mask_4 : decode cX9_mask 4 = .ok (.ifCond .eq 19, 3) := by decide +kernel
theorem dX9_mask_7 : decode cX9_mask 7 = .ok (.iload_n 2, 1) := by decide +kernel
theorem dX9_mask_8 : decode cX9_mask 8 = .ok (.ifCond .lt 15, 3) := by decide +kernel
theorem dX9_mask_11 : decode cX9_mask 11 = .ok (.iload_n 2, 1) := by decide +kernel
theorem dX9_mask_12 : decode cX9_mask 12 = .ok (.iconst 1, 1) := by decide +kernel
theorem dX9_mask_13 : decode cX9_mask 13 = .ok (.if_icmp .gt 10, 3) := by decide +kernel
theorem dX9_mask_16 : decode cX9_mask 16 = .ok (.iload_n 3, 1) := by decide +kernel
theorem dX9_mask_17 : decode cX9_mask 17 = .ok (.invokestatic 89, 3) := by decide +kernel
theorem dX9_mask_20 : decode cX9_mask 20 = .ok (.ifCond .ne 5, 3) := by decide +kernel
theorem dX9_mask_23 : decode cX9_mask 23 = .ok (.iconst (-1), 1) := by decide +kernel
theorem dX9_mask_24 : decode cX9_mask 24 = .ok (.ireturn, 1) := by decide +kernel
theorem dX9_mask_25 : decode cX9_mask 25 = .ok (.iload_n 2, 1) := by decide +kernel
theorem dX9_mask_26 : decode cX9_mask 26 = .ok (.ifCond .ne 10, 3) := by decide +kernel
theorem dX9_mask_29 : decode cX9_mask 29 = .ok (.aload_n 0, 1) := by decide +kernel
theorem dX9_mask_30 : decode cX9_mask 30 = .ok (.getfield 20, 3) := by decide +kernel
theorem dX9_mask_33 : decode cX9_mask 33 = .ok (.goto 7, 3) := by decide +kernel
theorem dX9_mask_36 : decode cX9_mask 36 = .ok (.aload_n 0, 1) := by decide +kernel
theorem dX9_mask_37 : decode cX9_mask 37 = .ok (.getfield 23, 3) := by decide +kernel
theorem dX9_mask_40 : decode cX9_mask 40 = .ok (.astore 4, 2) := by decide +kernel
theorem dX9_mask_42 : decode cX9_mask 42 = .ok (.aload 4, 2) := by decide +kernel
theorem dX9_mask_44 : decode cX9_mask 44 = .ok (.iload_n 1, 1) := by decide +kernel
theorem dX9_mask_45 : decode cX9_mask 45 = .ok (.iaload, 1) := by decide +kernel
theorem dX9_mask_46 : decode cX9_mask 46 = .ok (.istore 5, 2) := by decide +kernel
theorem dX9_mask_48 : decode cX9_mask 48 = .ok (.aload 4, 2) := by decide +kernel
theorem dX9_mask_50 : decode cX9_mask 50 = .ok (.iload_n 1, 1) := by decide +kernel
theorem dX9_mask_51 : decode cX9_mask 51 = .ok (.iload_n 3, 1) := by decide +kernel
theorem dX9_mask_52 : decode cX9_mask 52 = .ok (.iastore, 1) := by decide +kernel
theorem dX9_mask_53 : decode cX9_mask 53 = .ok (.iload 5, 2) := by decide +kernel
theorem dX9_mask_55 : decode cX9_mask 55 = .ok (.ireturn, 1) := by decide +kernel
theorem dX9_layer_0 : decode cX9_layer 0 = .ok (.iload_n 1, 1) := by decide +kernel
theorem dX9_layer_1 : decode cX9_layer 1 = .ok (.invokestatic 86, 3) := by decide +kernel
theorem dX9_layer_4 : decode cX9_layer 4 = .ok (.ifCond .ne 5, 3) := by decide +kernel
theorem dX9_layer_7 : decode cX9_layer 7 = .ok (.iconst (-1), 1) := by decide +kernel
theorem dX9_layer_8 : decode cX9_layer 8 = .ok (.ireturn, 1) := by decide +kernel
theorem dX9_layer_9 : decode cX9_layer 9 = .ok (.iload_n 2, 1) := by decide +kernel
theorem dX9_layer_10 : decode cX9_layer 10 = .ok (.tableswitch 76 0 3 #[30, 37, 62, 69], 30) := by decide +kernel
theorem dX9_layer_40 : decode cX9_layer 40 = .ok (.aload_n 0, 1) := by decide +kernel
theorem dX9_layer_41 : decode cX9_layer 41 = .ok (.getfield 16, 3) := by decide +kernel
theorem dX9_layer_44 : decode cX9_layer 44 = .ok (.iload_n 1, 1) := by decide +kernel
theorem dX9_layer_45 : decode cX9_layer 45 = .ok (.iaload, 1) := by decide +kernel
theorem dX9_layer_46 : decode cX9_layer 46 = .ok (.ireturn, 1) := by decide +kernel
theorem dX9_layer_47 : decode cX9_layer 47 = .ok (.aload_n 0, 1) := by decide +kernel
theorem dX9_layer_48 : decode cX9_layer 48 = .ok (.getfield 16, 3) := by decide +kernel
theorem dX9_layer_51 : decode cX9_layer 51 = .ok (.iload_n 1, 1) := by decide +kernel
theorem dX9_layer_52 : decode cX9_layer 52 = .ok (.iaload, 1) := by decide +kernel
theorem dX9_layer_53 : decode cX9_layer 53 = .ok (.aload_n 0, 1) := by decide +kernel
theorem dX9_layer_54 : decode cX9_layer 54 = .ok (.getfield 20, 3) := by decide +kernel
theorem dX9_layer_57 : decode cX9_layer 57 = .ok (.iload_n 1, 1) := by decide +kernel
theorem dX9_layer_58 : decode cX9_layer 58 = .ok (.iaload, 1) := by decide +kernel
theorem dX9_layer_59 : decode cX9_layer 59 = .ok (.iconst (-1), 1) := by decide +kernel
theorem dX9_layer_60 : decode cX9_layer 60 = .ok (.ixor, 1) := by decide +kernel
theorem dX9_layer_61 : decode cX9_layer 61 = .ok (.iand, 1) := by decide +kernel
theorem dX9_layer_62 : decode cX9_layer 62 = .ok (.aload_n 0, 1) := by decide +kernel
theorem dX9_layer_63 : decode cX9_layer 63 = .ok (.getfield 23, 3) := by decide +kernel
theorem dX9_layer_66 : decode cX9_layer 66 = .ok (.iload_n 1, 1) := by decide +kernel
theorem dX9_layer_67 : decode cX9_layer 67 = .ok (.iaload, 1) := by decide +kernel
theorem dX9_layer_68 : decode cX9_layer 68 = .ok (.iconst (-1), 1) := by decide +kernel
theorem dX9_layer_69 : decode cX9_layer 69 = .ok (.ixor, 1) := by decide +kernel
theorem dX9_layer_70 : decode cX9_layer 70 = .ok (.iand, 1) := by decide +kernel
theorem dX9_layer_71 : decode cX9_layer 71 = .ok (.ireturn, 1) := by decide +kernel
theorem dX9_layer_72 : decode cX9_layer 72 = .ok (.aload_n 0, 1) := by decide +kernel
theorem dX9_layer_73 : decode cX9_layer 73 = .ok (.getfield 20, 3) := by decide +kernel
theorem dX9_layer_76 : decode cX9_layer 76 = .ok (.iload_n 1, 1) := by decide +kernel
theorem dX9_layer_77 : decode cX9_layer 77 = .ok (.iaload, 1) := by decide +kernel
theorem dX9_layer_78 : decode cX9_layer 78 = .ok (.ireturn, 1) := by decide +kernel
theorem dX9_layer_79 : decode cX9_layer 79 = .ok (.aload_n 0, 1) := by decide +kernel
theorem dX9_layer_80 : decode cX9_layer 80 = .ok (.getfield 23, 3) := by decide +kernel
theorem dX9_layer_83 : decode cX9_layer 83 = .ok (.iload_n 1, 1) := by decide +kernel
theorem dX9_layer_84 : decode cX9_layer 84 = .ok (.iaload, 1) := by decide +kernel
theorem dX9_layer_85 : decode cX9_layer 85 = .ok (.ireturn, 1) := by decide +kernel
theorem dX9_layer_86 : decode cX9_layer 86 = .ok (.iconst (-1), 1) := by decide +kernel
theorem dX9_layer_87 : decode cX9_layer 87 = .ok (.ireturn, 1) := by decide +kernel
theorem dX9_road_0 : decode cX9_road 0 = .ok (.iload_n 1, 1) := by decide +kernel
theorem dX9_road_1 : decode cX9_road 1 = .ok (.invokestatic 106, 3) := by decide +kernel
theorem dX9_road_4 : decode cX9_road 4 = .ok (.ifCond .eq 37, 3) := by decide +kernel
theorem dX9_road_7 : decode cX9_road 7 = .ok (.iload_n 2, 1) := by decide +kernel
theorem dX9_road_8 : decode cX9_road 8 = .ok (.invokestatic 106, 3) := by decide +kernel
theorem dX9_road_11 : decode cX9_road 11 = .ok (.ifCond .eq 30, 3) := by decide +kernel
theorem dX9_road_14 : decode cX9_road 14 = .ok (.iload_n 3, 1) := by decide +kernel
theorem dX9_road_15 : decode cX9_road 15 = .ok (.invokestatic 106, 3) := by decide +kernel
theorem dX9_road_18 : decode cX9_road 18 = .ok (.ifCond .eq 23, 3) := by decide +kernel
theorem dX9_road_21 : decode cX9_road 21 = .ok (.iload 4, 2) := by decide +kernel
theorem dX9_road_23 : decode cX9_road 23 = .ok (.invokestatic 106, 3) := by decide +kernel
theorem dX9_road_26 : decode cX9_road 26 = .ok (.ifCond .eq 15, 3) := by decide +kernel
theorem dX9_road_29 : decode cX9_road 29 = .ok (.iload 5, 2) := by decide +kernel
theorem dX9_road_31 : decode cX9_road 31 = .ok (.invokestatic 106, 3) := by decide +kernel
theorem dX9_road_34 : decode cX9_road 34 = .ok (.ifCond .eq 7, 3) := by decide +kernel
theorem dX9_road_37 : decode cX9_road 37 = .ok (.iconst 1, 1) := by decide +kernel
theorem dX9_road_38 : decode cX9_road 38 = .ok (.goto 4, 3) := by decide +kernel
theorem dX9_road_41 : decode cX9_road 41 = .ok (.iconst 0, 1) := by decide +kernel
theorem dX9_road_42 : decode cX9_road 42 = .ok (.istore 7, 2) := by decide +kernel
theorem dX9_road_44 : decode cX9_road 44 = .ok (.iload 7, 2) := by decide +kernel
theorem dX9_road_46 : decode cX9_road 46 = .ok (.ifCond .eq 15, 3) := by decide +kernel
theorem dX9_road_49 : decode cX9_road 49 = .ok (.iload 6, 2) := by decide +kernel
theorem dX9_road_51 : decode cX9_road 51 = .ok (.iconst 1, 1) := by decide +kernel
theorem dX9_road_52 : decode cX9_road 52 = .ok (.if_icmp .lt 9, 3) := by decide +kernel
theorem dX9_road_55 : decode cX9_road 55 = .ok (.iload 6, 2) := by decide +kernel
theorem dX9_road_57 : decode cX9_road 57 = .ok (.iconst 5, 1) := by decide +kernel
theorem dX9_road_58 : decode cX9_road 58 = .ok (.if_icmp .le 5, 3) := by decide +kernel
theorem dX9_road_61 : decode cX9_road 61 = .ok (.iconst (-1), 1) := by decide +kernel
theorem dX9_road_62 : decode cX9_road 62 = .ok (.ireturn, 1) := by decide +kernel
theorem dX9_road_63 : decode cX9_road 63 = .ok (.aload_n 0, 1) := by decide +kernel
theorem dX9_road_64 : decode cX9_road 64 = .ok (.getfield 29, 3) := by decide +kernel
theorem dX9_road_67 : decode cX9_road 67 = .ok (.invokeinterface 109 1, 5) := by decide +kernel
theorem dX9_road_72 : decode cX9_road 72 = .ok (.bipush 12, 2) := by decide +kernel
theorem dX9_road_74 : decode cX9_road 74 = .ok (.if_icmp .lt 6, 3) := by decide +kernel
theorem dX9_road_77 : decode cX9_road 77 = .ok (.bipush (-2), 2) := by decide +kernel
theorem dX9_road_79 : decode cX9_road 79 = .ok (.ireturn, 1) := by decide +kernel
theorem dX9_road_80 : decode cX9_road 80 = .ok (.new 115, 3) := by decide +kernel
theorem dX9_road_83 : decode cX9_road 83 = .ok (.dup, 1) := by decide +kernel
theorem dX9_road_84 : decode cX9_road 84 = .ok (.iload 6, 2) := by decide +kernel
theorem dX9_road_86 : decode cX9_road 86 = .ok (.invokespecial 117, 3) := by decide +kernel
theorem dX9_road_89 : decode cX9_road 89 = .ok (.astore 8, 2) := by decide +kernel
theorem dX9_road_91 : decode cX9_road 91 = .ok (.aload 8, 2) := by decide +kernel
theorem dX9_road_93 : decode cX9_road 93 = .ok (.iconst 0, 1) := by decide +kernel
theorem dX9_road_94 : decode cX9_road 94 = .ok (.iload_n 1, 1) := by decide +kernel
theorem dX9_road_95 : decode cX9_road 95 = .ok (.invokevirtual 120, 3) := by decide +kernel
theorem dX9_road_98 : decode cX9_road 98 = .ok (.aload 8, 2) := by decide +kernel
theorem dX9_road_100 : decode cX9_road 100 = .ok (.iconst 1, 1) := by decide +kernel
theorem dX9_road_101 : decode cX9_road 101 = .ok (.iload_n 2, 1) := by decide +kernel
theorem dX9_road_102 : decode cX9_road 102 = .ok (.invokevirtual 120, 3) := by decide +kernel
theorem dX9_road_105 : decode cX9_road 105 = .ok (.aload 8, 2) := by decide +kernel
theorem dX9_road_107 : decode cX9_road 107 = .ok (.iconst 2, 1) := by decide +kernel
theorem dX9_road_108 : decode cX9_road 108 = .ok (.iload_n 3, 1) := by decide +kernel
theorem dX9_road_109 : decode cX9_road 109 = .ok (.invokevirtual 120, 3) := by decide +kernel
theorem dX9_road_112 : decode cX9_road 112 = .ok (.aload 8, 2) := by decide +kernel
theorem dX9_road_114 : decode cX9_road 114 = .ok (.iconst 3, 1) := by decide +kernel
theorem dX9_road_115 : decode cX9_road 115 = .ok (.iload 4, 2) := by decide +kernel
theorem dX9_road_117 : decode cX9_road 117 = .ok (.invokevirtual 120, 3) := by decide +kernel
theorem dX9_road_120 : decode cX9_road 120 = .ok (.aload 8, 2) := by decide +kernel
theorem dX9_road_122 : decode cX9_road 122 = .ok (.iconst 4, 1) := by decide +kernel
theorem dX9_road_123 : decode cX9_road 123 = .ok (.iload 5, 2) := by decide +kernel
theorem dX9_road_125 : decode cX9_road 125 = .ok (.invokevirtual 120, 3) := by decide +kernel
theorem dX9_road_128 : decode cX9_road 128 = .ok (.aload_n 0, 1) := by decide +kernel
theorem dX9_road_129 : decode cX9_road 129 = .ok (.getfield 29, 3) := by decide +kernel
theorem dX9_road_132 : decode cX9_road 132 = .ok (.aload 8, 2) := by decide +kernel
theorem dX9_road_134 : decode cX9_road 134 = .ok (.invokeinterface 123 2, 5) := by decide +kernel
theorem dX9_road_139 : decode cX9_road 139 = .ok (.pop, 1) := by decide +kernel
theorem dX9_road_140 : decode cX9_road 140 = .ok (.aload_n 0, 1) := by decide +kernel
theorem dX9_road_141 : decode cX9_road 141 = .ok (.getfield 29, 3) := by decide +kernel
theorem dX9_road_144 : decode cX9_road 144 = .ok (.invokeinterface 109 1, 5) := by decide +kernel
theorem dX9_road_149 : decode cX9_road 149 = .ok (.iconst 1, 1) := by decide +kernel
theorem dX9_road_150 : decode cX9_road 150 = .ok (.isub, 1) := by decide +kernel
theorem dX9_road_151 : decode cX9_road 151 = .ok (.ireturn, 1) := by decide +kernel
theorem dX9_span_0 : decode cX9_span 0 = .ok (.aload_n 0, 1) := by decide +kernel
theorem dX9_span_1 : decode cX9_span 1 = .ok (.iload_n 1, 1) := by decide +kernel
theorem dX9_span_2 : decode cX9_span 2 = .ok (.invokevirtual 127, 3) := by decide +kernel
theorem dX9_span_5 : decode cX9_span 5 = .ok (.astore 4, 2) := by decide +kernel
theorem dX9_span_7 : decode cX9_span 7 = .ok (.aload 4, 2) := by decide +kernel
theorem dX9_span_9 : decode cX9_span 9 = .ok (.ifnull 17, 3) := by decide +kernel
theorem dX9_span_12 : decode cX9_span 12 = .ok (.iload_n 2, 1) := by decide +kernel
theorem dX9_span_13 : decode cX9_span 13 = .ok (.invokestatic 86, 3) := by decide +kernel
theorem dX9_span_16 : decode cX9_span 16 = .ok (.ifCond .eq 10, 3) := by decide +kernel
theorem dX9_span_19 : decode cX9_span 19 = .ok (.iload_n 3, 1) := by decide +kernel
theorem dX9_span_20 : decode cX9_span 20 = .ok (.invokestatic 106, 3) := by decide +kernel
theorem dX9_span_23 : decode cX9_span 23 = .ok (.ifCond .ne 5, 3) := by decide +kernel
theorem dX9_span_26 : decode cX9_span 26 = .ok (.iconst (-1), 1) := by decide +kernel
theorem dX9_span_27 : decode cX9_span 27 = .ok (.ireturn, 1) := by decide +kernel
theorem dX9_span_28 : decode cX9_span 28 = .ok (.aload 4, 2) := by decide +kernel
theorem dX9_span_30 : decode cX9_span 30 = .ok (.iload_n 2, 1) := by decide +kernel
theorem dX9_span_31 : decode cX9_span 31 = .ok (.invokevirtual 131, 3) := by decide +kernel
theorem dX9_span_34 : decode cX9_span 34 = .ok (.istore 5, 2) := by decide +kernel
theorem dX9_span_36 : decode cX9_span 36 = .ok (.aload 4, 2) := by decide +kernel
theorem dX9_span_38 : decode cX9_span 38 = .ok (.iload_n 2, 1) := by decide +kernel
theorem dX9_span_39 : decode cX9_span 39 = .ok (.iload_n 3, 1) := by decide +kernel
theorem dX9_span_40 : decode cX9_span 40 = .ok (.invokevirtual 120, 3) := by decide +kernel
theorem dX9_span_43 : decode cX9_span 43 = .ok (.iload 5, 2) := by decide +kernel
theorem dX9_span_45 : decode cX9_span 45 = .ok (.ireturn, 1) := by decide +kernel
theorem dX9_lit_0 : decode cX9_lit 0 = .ok (.aload_n 0, 1) := by decide +kernel
theorem dX9_lit_1 : decode cX9_lit 1 = .ok (.getfield 36, 3) := by decide +kernel
theorem dX9_lit_4 : decode cX9_lit 4 = .ok (.aload_n 0, 1) := by decide +kernel
theorem dX9_lit_5 : decode cX9_lit 5 = .ok (.getfield 16, 3) := by decide +kernel
theorem dX9_lit_8 : decode cX9_lit 8 = .ok (.aload_n 0, 1) := by decide +kernel
theorem dX9_lit_9 : decode cX9_lit 9 = .ok (.getfield 20, 3) := by decide +kernel
theorem dX9_lit_12 : decode cX9_lit 12 = .ok (.aload_n 0, 1) := by decide +kernel
theorem dX9_lit_13 : decode cX9_lit 13 = .ok (.getfield 23, 3) := by decide +kernel
theorem dX9_lit_16 : decode cX9_lit 16 = .ok (.invokevirtual 134, 3) := by decide +kernel
theorem dX9_lit_19 : decode cX9_lit 19 = .ok (.aload_n 0, 1) := by decide +kernel
theorem dX9_lit_20 : decode cX9_lit 20 = .ok (.getfield 36, 3) := by decide +kernel
theorem dX9_lit_23 : decode cX9_lit 23 = .ok (.aload_n 0, 1) := by decide +kernel
theorem dX9_lit_24 : decode cX9_lit 24 = .ok (.getfield 29, 3) := by decide +kernel
theorem dX9_lit_27 : decode cX9_lit 27 = .ok (.invokevirtual 138, 3) := by decide +kernel
theorem dX9_lit_30 : decode cX9_lit 30 = .ok (.aload_n 0, 1) := by decide +kernel
theorem dX9_lit_31 : decode cX9_lit 31 = .ok (.getfield 36, 3) := by decide +kernel
theorem dX9_lit_34 : decode cX9_lit 34 = .ok (.getfield 142, 3) := by decide +kernel
theorem dX9_lit_37 : decode cX9_lit 37 = .ok (.ireturn, 1) := by decide +kernel
theorem dX9_held_0 : decode cX9_held 0 = .ok (.aload_n 0, 1) := by decide +kernel
theorem dX9_held_1 : decode cX9_held 1 = .ok (.iload_n 1, 1) := by decide +kernel
theorem dX9_held_2 : decode cX9_held 2 = .ok (.invokevirtual 127, 3) := by decide +kernel
theorem dX9_held_5 : decode cX9_held 5 = .ok (.astore_n 2, 1) := by decide +kernel
theorem dX9_held_6 : decode cX9_held 6 = .ok (.aload_n 2, 1) := by decide +kernel
theorem dX9_held_7 : decode cX9_held 7 = .ok (.ifnonnull 5, 3) := by decide +kernel
theorem dX9_held_10 : decode cX9_held 10 = .ok (.iconst (-1), 1) := by decide +kernel
theorem dX9_held_11 : decode cX9_held 11 = .ok (.ireturn, 1) := by decide +kernel
theorem dX9_held_12 : decode cX9_held 12 = .ok (.aload_n 0, 1) := by decide +kernel
theorem dX9_held_13 : decode cX9_held 13 = .ok (.getfield 36, 3) := by decide +kernel
theorem dX9_held_16 : decode cX9_held 16 = .ok (.aload_n 0, 1) := by decide +kernel
theorem dX9_held_17 : decode cX9_held 17 = .ok (.getfield 16, 3) := by decide +kernel
theorem dX9_held_20 : decode cX9_held 20 = .ok (.aload_n 0, 1) := by decide +kernel
theorem dX9_held_21 : decode cX9_held 21 = .ok (.getfield 20, 3) := by decide +kernel
theorem dX9_held_24 : decode cX9_held 24 = .ok (.aload_n 0, 1) := by decide +kernel
theorem dX9_held_25 : decode cX9_held 25 = .ok (.getfield 23, 3) := by decide +kernel
theorem dX9_held_28 : decode cX9_held 28 = .ok (.invokevirtual 134, 3) := by decide +kernel
theorem dX9_held_31 : decode cX9_held 31 = .ok (.aload_n 2, 1) := by decide +kernel
theorem dX9_held_32 : decode cX9_held 32 = .ok (.aload_n 0, 1) := by decide +kernel
theorem dX9_held_33 : decode cX9_held 33 = .ok (.getfield 36, 3) := by decide +kernel
theorem dX9_held_36 : decode cX9_held 36 = .ok (.getfield 146, 3) := by decide +kernel
theorem dX9_held_39 : decode cX9_held 39 = .ok (.invokevirtual 149, 3) := by decide +kernel
theorem dX9_held_42 : decode cX9_held 42 = .ok (.ireturn, 1) := by decide +kernel
theorem dX9_track_0 : decode cX9_track 0 = .ok (.aload_n 0, 1) := by decide +kernel
theorem dX9_track_1 : decode cX9_track 1 = .ok (.iload_n 1, 1) := by decide +kernel
theorem dX9_track_2 : decode cX9_track 2 = .ok (.invokevirtual 127, 3) := by decide +kernel
theorem dX9_track_5 : decode cX9_track 5 = .ok (.astore_n 3, 1) := by decide +kernel
theorem dX9_track_6 : decode cX9_track 6 = .ok (.aload_n 3, 1) := by decide +kernel
theorem dX9_track_7 : decode cX9_track 7 = .ok (.ifnull 10, 3) := by decide +kernel
theorem dX9_track_10 : decode cX9_track 10 = .ok (.iload_n 2, 1) := by decide +kernel
theorem dX9_track_11 : decode cX9_track 11 = .ok (.invokestatic 86, 3) := by decide +kernel
theorem dX9_track_14 : decode cX9_track 14 = .ok (.ifCond .ne 5, 3) := by decide +kernel
theorem dX9_track_17 : decode cX9_track 17 = .ok (.iconst (-1), 1) := by decide +kernel
theorem dX9_track_18 : decode cX9_track 18 = .ok (.ireturn, 1) := by decide +kernel
theorem dX9_track_19 : decode cX9_track 19 = .ok (.aload_n 0, 1) := by decide +kernel
theorem dX9_track_20 : decode cX9_track 20 = .ok (.aload_n 3, 1) := by decide +kernel
theorem dX9_track_21 : decode cX9_track 21 = .ok (.invokevirtual 152, 3) := by decide +kernel
theorem dX9_track_24 : decode cX9_track 24 = .ok (.ifCond .ne 6, 3) := by decide +kernel
theorem dX9_track_27 : decode cX9_track 27 = .ok (.bipush (-5), 2) := by decide +kernel
theorem dX9_track_29 : decode cX9_track 29 = .ok (.ireturn, 1) := by decide +kernel
theorem dX9_track_30 : decode cX9_track 30 = .ok (.aload_n 0, 1) := by decide +kernel
theorem dX9_track_31 : decode cX9_track 31 = .ok (.getfield 36, 3) := by decide +kernel
theorem dX9_track_34 : decode cX9_track 34 = .ok (.getfield 156, 3) := by decide +kernel
theorem dX9_track_37 : decode cX9_track 37 = .ok (.getfield 160, 3) := by decide +kernel
theorem dX9_track_40 : decode cX9_track 40 = .ok (.iload_n 2, 1) := by decide +kernel
theorem dX9_track_41 : decode cX9_track 41 = .ok (.iaload, 1) := by decide +kernel
theorem dX9_track_42 : decode cX9_track 42 = .ok (.istore 4, 2) := by decide +kernel
theorem dX9_track_44 : decode cX9_track 44 = .ok (.iload 4, 2) := by decide +kernel
theorem dX9_track_46 : decode cX9_track 46 = .ok (.iconst (-1), 1) := by decide +kernel
theorem dX9_track_47 : decode cX9_track 47 = .ok (.if_icmp .ne 8, 3) := by decide +kernel
theorem dX9_track_50 : decode cX9_track 50 = .ok (.bipush (-5), 2) := by decide +kernel
theorem dX9_track_52 : decode cX9_track 52 = .ok (.goto 5, 3) := by decide +kernel
theorem dX9_track_55 : decode cX9_track 55 = .ok (.iload 4, 2) := by decide +kernel
theorem dX9_track_57 : decode cX9_track 57 = .ok (.ireturn, 1) := by decide +kernel
theorem dX9_miss_0 : decode cX9_miss 0 = .ok (.aload_n 0, 1) := by decide +kernel
theorem dX9_miss_1 : decode cX9_miss 1 = .ok (.iload_n 1, 1) := by decide +kernel
theorem dX9_miss_2 : decode cX9_miss 2 = .ok (.invokevirtual 127, 3) := by decide +kernel
theorem dX9_miss_5 : decode cX9_miss 5 = .ok (.astore_n 3, 1) := by decide +kernel
theorem dX9_miss_6 : decode cX9_miss 6 = .ok (.aload_n 3, 1) := by decide +kernel
theorem dX9_miss_7 : decode cX9_miss 7 = .ok (.ifnull 12, 3) := by decide +kernel
theorem dX9_miss_10 : decode cX9_miss 10 = .ok (.iload_n 2, 1) := by decide +kernel
theorem dX9_miss_11 : decode cX9_miss 11 = .ok (.ifCond .lt 8, 3) := by decide +kernel
theorem dX9_miss_14 : decode cX9_miss 14 = .ok (.iload_n 2, 1) := by decide +kernel
theorem dX9_miss_15 : decode cX9_miss 15 = .ok (.iconst 1, 1) := by decide +kernel
theorem dX9_miss_16 : decode cX9_miss 16 = .ok (.if_icmp .le 5, 3) := by decide +kernel
theorem dX9_miss_19 : decode cX9_miss 19 = .ok (.iconst (-1), 1) := by decide +kernel
theorem dX9_miss_20 : decode cX9_miss 20 = .ok (.ireturn, 1) := by decide +kernel
theorem dX9_miss_21 : decode cX9_miss 21 = .ok (.aload_n 0, 1) := by decide +kernel
theorem dX9_miss_22 : decode cX9_miss 22 = .ok (.aload_n 3, 1) := by decide +kernel
theorem dX9_miss_23 : decode cX9_miss 23 = .ok (.invokevirtual 152, 3) := by decide +kernel
theorem dX9_miss_26 : decode cX9_miss 26 = .ok (.ifCond .ne 6, 3) := by decide +kernel
theorem dX9_miss_29 : decode cX9_miss 29 = .ok (.bipush (-5), 2) := by decide +kernel
theorem dX9_miss_31 : decode cX9_miss 31 = .ok (.ireturn, 1) := by decide +kernel
theorem dX9_miss_32 : decode cX9_miss 32 = .ok (.aload_n 0, 1) := by decide +kernel
theorem dX9_miss_33 : decode cX9_miss 33 = .ok (.getfield 36, 3) := by decide +kernel
theorem dX9_miss_36 : decode cX9_miss 36 = .ok (.getfield 156, 3) := by decide +kernel
theorem dX9_miss_39 : decode cX9_miss 39 = .ok (.invokevirtual 165, 3) := by decide +kernel
theorem dX9_miss_42 : decode cX9_miss 42 = .ok (.istore 4, 2) := by decide +kernel
theorem dX9_miss_44 : decode cX9_miss 44 = .ok (.aload_n 0, 1) := by decide +kernel
theorem dX9_miss_45 : decode cX9_miss 45 = .ok (.getfield 36, 3) := by decide +kernel
theorem dX9_miss_48 : decode cX9_miss 48 = .ok (.getfield 156, 3) := by decide +kernel
theorem dX9_miss_51 : decode cX9_miss 51 = .ok (.invokevirtual 168, 3) := by decide +kernel
theorem dX9_miss_54 : decode cX9_miss 54 = .ok (.istore 5, 2) := by decide +kernel
theorem dX9_miss_56 : decode cX9_miss 56 = .ok (.iload 4, 2) := by decide +kernel
theorem dX9_miss_58 : decode cX9_miss 58 = .ok (.iload 5, 2) := by decide +kernel
theorem dX9_miss_60 : decode cX9_miss 60 = .ok (.invokestatic 171, 3) := by decide +kernel
theorem dX9_miss_63 : decode cX9_miss 63 = .ok (.istore 6, 2) := by decide +kernel
theorem dX9_miss_65 : decode cX9_miss 65 = .ok (.iload_n 2, 1) := by decide +kernel
theorem dX9_miss_66 : decode cX9_miss 66 = .ok (.ifCond .ne 11, 3) := by decide +kernel
theorem dX9_miss_69 : decode cX9_miss 69 = .ok (.iload 4, 2) := by decide +kernel
theorem dX9_miss_71 : decode cX9_miss 71 = .ok (.iload 6, 2) := by decide +kernel
theorem dX9_miss_73 : decode cX9_miss 73 = .ok (.idiv, 1) := by decide +kernel
theorem dX9_miss_74 : decode cX9_miss 74 = .ok (.goto 8, 3) := by decide +kernel
theorem dX9_miss_77 : decode cX9_miss 77 = .ok (.iload 5, 2) := by decide +kernel
theorem dX9_miss_79 : decode cX9_miss 79 = .ok (.iload 6, 2) := by decide +kernel
theorem dX9_miss_81 : decode cX9_miss 81 = .ok (.idiv, 1) := by decide +kernel
theorem dX9_miss_82 : decode cX9_miss 82 = .ok (.ireturn, 1) := by decide +kernel
theorem dX9_weight_0 : decode cX9_weight 0 = .ok (.aload_n 0, 1) := by decide +kernel
theorem dX9_weight_1 : decode cX9_weight 1 = .ok (.iload_n 1, 1) := by decide +kernel
theorem dX9_weight_2 : decode cX9_weight 2 = .ok (.invokevirtual 127, 3) := by decide +kernel
theorem dX9_weight_5 : decode cX9_weight 5 = .ok (.astore_n 2, 1) := by decide +kernel
theorem dX9_weight_6 : decode cX9_weight 6 = .ok (.aload_n 2, 1) := by decide +kernel
theorem dX9_weight_7 : decode cX9_weight 7 = .ok (.ifnonnull 5, 3) := by decide +kernel
theorem dX9_weight_10 : decode cX9_weight 10 = .ok (.iconst (-1), 1) := by decide +kernel
theorem dX9_weight_11 : decode cX9_weight 11 = .ok (.ireturn, 1) := by decide +kernel
theorem dX9_weight_12 : decode cX9_weight 12 = .ok (.aload_n 0, 1) := by decide +kernel
theorem dX9_weight_13 : decode cX9_weight 13 = .ok (.aload_n 2, 1) := by decide +kernel
theorem dX9_weight_14 : decode cX9_weight 14 = .ok (.invokevirtual 152, 3) := by decide +kernel
theorem dX9_weight_17 : decode cX9_weight 17 = .ok (.ifCond .eq 16, 3) := by decide +kernel
theorem dX9_weight_20 : decode cX9_weight 20 = .ok (.aload_n 0, 1) := by decide +kernel
theorem dX9_weight_21 : decode cX9_weight 21 = .ok (.getfield 36, 3) := by decide +kernel
theorem dX9_weight_24 : decode cX9_weight 24 = .ok (.getfield 156, 3) := by decide +kernel
theorem dX9_weight_27 : decode cX9_weight 27 = .ok (.invokevirtual 175, 3) := by decide +kernel
theorem dX9_weight_30 : decode cX9_weight 30 = .ok (.goto 5, 3) := by decide +kernel
theorem dX9_weight_33 : decode cX9_weight 33 = .ok (.bipush (-5), 2) := by decide +kernel
theorem dX9_weight_35 : decode cX9_weight 35 = .ok (.ireturn, 1) := by decide +kernel
theorem dX9_heap_0 : decode cX9_heap 0 = .ok (.iload_n 1, 1) := by decide +kernel
theorem dX9_heap_1 : decode cX9_heap 1 = .ok (.ifCond .lt 8, 3) := by decide +kernel
theorem dX9_heap_4 : decode cX9_heap 4 = .ok (.iload_n 1, 1) := by decide +kernel
theorem dX9_heap_5 : decode cX9_heap 5 = .ok (.iconst 2, 1) := by decide +kernel
theorem dX9_heap_6 : decode cX9_heap 6 = .ok (.if_icmp .le 5, 3) := by decide +kernel
theorem dX9_heap_9 : decode cX9_heap 9 = .ok (.iconst (-1), 1) := by decide +kernel
theorem dX9_heap_10 : decode cX9_heap 10 = .ok (.ireturn, 1) := by decide +kernel
theorem dX9_heap_11 : decode cX9_heap 11 = .ok (.aload_n 0, 1) := by decide +kernel
theorem dX9_heap_12 : decode cX9_heap 12 = .ok (.aload_n 0, 1) := by decide +kernel
theorem dX9_heap_13 : decode cX9_heap 13 = .ok (.getfield 16, 3) := by decide +kernel
theorem dX9_heap_16 : decode cX9_heap 16 = .ok (.invokevirtual 178, 3) := by decide +kernel
theorem dX9_heap_19 : decode cX9_heap 19 = .ok (.iload_n 1, 1) := by decide +kernel
theorem dX9_heap_20 : decode cX9_heap 20 = .ok (.ifCond .ne 14, 3) := by decide +kernel
theorem dX9_heap_23 : decode cX9_heap 23 = .ok (.aload_n 0, 1) := by decide +kernel
theorem dX9_heap_24 : decode cX9_heap 24 = .ok (.getfield 36, 3) := by decide +kernel
theorem dX9_heap_27 : decode cX9_heap 27 = .ok (.getfield 182, 3) := by decide +kernel
theorem dX9_heap_30 : decode cX9_heap 30 = .ok (.getfield 186, 3) := by decide +kernel
theorem dX9_heap_33 : decode cX9_heap 33 = .ok (.ireturn, 1) := by decide +kernel
theorem dX9_heap_34 : decode cX9_heap 34 = .ok (.iload_n 1, 1) := by decide +kernel
theorem dX9_heap_35 : decode cX9_heap 35 = .ok (.iconst 1, 1) := by decide +kernel
theorem dX9_heap_36 : decode cX9_heap 36 = .ok (.if_icmp .ne 19, 3) := by decide +kernel
theorem dX9_heap_39 : decode cX9_heap 39 = .ok (.aload_n 0, 1) := by decide +kernel
theorem dX9_heap_40 : decode cX9_heap 40 = .ok (.getfield 36, 3) := by decide +kernel
theorem dX9_heap_43 : decode cX9_heap 43 = .ok (.getfield 182, 3) := by decide +kernel
theorem dX9_heap_46 : decode cX9_heap 46 = .ok (.getfield 186, 3) := by decide +kernel
theorem dX9_heap_49 : decode cX9_heap 49 = .ok (.invokestatic 92, 3) := by decide +kernel
theorem dX9_heap_52 : decode cX9_heap 52 = .ok (.goto 13, 3) := by decide +kernel
theorem dX9_heap_55 : decode cX9_heap 55 = .ok (.aload_n 0, 1) := by decide +kernel
theorem dX9_heap_56 : decode cX9_heap 56 = .ok (.getfield 36, 3) := by decide +kernel
theorem dX9_heap_59 : decode cX9_heap 59 = .ok (.getfield 182, 3) := by decide +kernel
theorem dX9_heap_62 : decode cX9_heap 62 = .ok (.getfield 191, 3) := by decide +kernel
theorem dX9_heap_65 : decode cX9_heap 65 = .ok (.ireturn, 1) := by decide +kernel
theorem dX9_blind_0 : decode cX9_blind 0 = .ok (.aload_n 0, 1) := by decide +kernel
theorem dX9_blind_1 : decode cX9_blind 1 = .ok (.getfield 36, 3) := by decide +kernel
theorem dX9_blind_4 : decode cX9_blind 4 = .ok (.aload_n 0, 1) := by decide +kernel
theorem dX9_blind_5 : decode cX9_blind 5 = .ok (.getfield 16, 3) := by decide +kernel
theorem dX9_blind_8 : decode cX9_blind 8 = .ok (.getstatic 194, 3) := by decide +kernel
theorem dX9_blind_11 : decode cX9_blind 11 = .ok (.aload_n 0, 1) := by decide +kernel
theorem dX9_blind_12 : decode cX9_blind 12 = .ok (.getfield 23, 3) := by decide +kernel
theorem dX9_blind_15 : decode cX9_blind 15 = .ok (.invokevirtual 134, 3) := by decide +kernel
theorem dX9_blind_18 : decode cX9_blind 18 = .ok (.aload_n 0, 1) := by decide +kernel
theorem dX9_blind_19 : decode cX9_blind 19 = .ok (.getfield 36, 3) := by decide +kernel
theorem dX9_blind_22 : decode cX9_blind 22 = .ok (.aload_n 0, 1) := by decide +kernel
theorem dX9_blind_23 : decode cX9_blind 23 = .ok (.getfield 29, 3) := by decide +kernel
theorem dX9_blind_26 : decode cX9_blind 26 = .ok (.invokevirtual 138, 3) := by decide +kernel
theorem dX9_blind_29 : decode cX9_blind 29 = .ok (.aload_n 0, 1) := by decide +kernel
theorem dX9_blind_30 : decode cX9_blind 30 = .ok (.getfield 36, 3) := by decide +kernel
theorem dX9_blind_33 : decode cX9_blind 33 = .ok (.getfield 142, 3) := by decide +kernel
theorem dX9_blind_36 : decode cX9_blind 36 = .ok (.istore_n 1, 1) := by decide +kernel
theorem dX9_blind_37 : decode cX9_blind 37 = .ok (.aload_n 0, 1) := by decide +kernel
theorem dX9_blind_38 : decode cX9_blind 38 = .ok (.getfield 36, 3) := by decide +kernel
theorem dX9_blind_41 : decode cX9_blind 41 = .ok (.aload_n 0, 1) := by decide +kernel
theorem dX9_blind_42 : decode cX9_blind 42 = .ok (.getfield 16, 3) := by decide +kernel
theorem dX9_blind_45 : decode cX9_blind 45 = .ok (.aload_n 0, 1) := by decide +kernel
theorem dX9_blind_46 : decode cX9_blind 46 = .ok (.getfield 20, 3) := by decide +kernel
theorem dX9_blind_49 : decode cX9_blind 49 = .ok (.aload_n 0, 1) := by decide +kernel
theorem dX9_blind_50 : decode cX9_blind 50 = .ok (.getfield 23, 3) := by decide +kernel
theorem dX9_blind_53 : decode cX9_blind 53 = .ok (.invokevirtual 134, 3) := by decide +kernel
theorem dX9_blind_56 : decode cX9_blind 56 = .ok (.aload_n 0, 1) := by decide +kernel
theorem dX9_blind_57 : decode cX9_blind 57 = .ok (.getfield 36, 3) := by decide +kernel
theorem dX9_blind_60 : decode cX9_blind 60 = .ok (.aload_n 0, 1) := by decide +kernel
theorem dX9_blind_61 : decode cX9_blind 61 = .ok (.getfield 29, 3) := by decide +kernel
theorem dX9_blind_64 : decode cX9_blind 64 = .ok (.invokevirtual 138, 3) := by decide +kernel
theorem dX9_blind_67 : decode cX9_blind 67 = .ok (.iload_n 1, 1) := by decide +kernel
theorem dX9_blind_68 : decode cX9_blind 68 = .ok (.aload_n 0, 1) := by decide +kernel
theorem dX9_blind_69 : decode cX9_blind 69 = .ok (.getfield 36, 3) := by decide +kernel
theorem dX9_blind_72 : decode cX9_blind 72 = .ok (.getfield 142, 3) := by decide +kernel
theorem dX9_blind_75 : decode cX9_blind 75 = .ok (.iconst (-1), 1) := by decide +kernel
theorem dX9_blind_76 : decode cX9_blind 76 = .ok (.ixor, 1) := by decide +kernel
theorem dX9_blind_77 : decode cX9_blind 77 = .ok (.iand, 1) := by decide +kernel
theorem dX9_blind_78 : decode cX9_blind 78 = .ok (.ireturn, 1) := by decide +kernel
theorem dX9_feed_0 : decode cX9_feed 0 = .ok (.iload_n 1, 1) := by decide +kernel
theorem dX9_feed_1 : decode cX9_feed 1 = .ok (.invokestatic 197, 3) := by decide +kernel
theorem dX9_feed_4 : decode cX9_feed 4 = .ok (.istore_n 2, 1) := by decide +kernel
theorem dX9_feed_5 : decode cX9_feed 5 = .ok (.aload_n 0, 1) := by decide +kernel
theorem dX9_feed_6 : decode cX9_feed 6 = .ok (.getfield 43, 3) := by decide +kernel
theorem dX9_feed_9 : decode cX9_feed 9 = .ok (.getfield 200, 3) := by decide +kernel
theorem dX9_feed_12 : decode cX9_feed 12 = .ok (.iload_n 2, 1) := by decide +kernel
theorem dX9_feed_13 : decode cX9_feed 13 = .ok (.iadd, 1) := by decide +kernel
theorem dX9_feed_14 : decode cX9_feed 14 = .ok (.bipush 60, 2) := by decide +kernel
theorem dX9_feed_16 : decode cX9_feed 16 = .ok (.if_icmp .le 6, 3) := by decide +kernel
theorem dX9_feed_19 : decode cX9_feed 19 = .ok (.bipush (-2), 2) := by decide +kernel
theorem dX9_feed_21 : decode cX9_feed 21 = .ok (.ireturn, 1) := by decide +kernel
theorem dX9_feed_22 : decode cX9_feed 22 = .ok (.iconst 0, 1) := by decide +kernel
theorem dX9_feed_23 : decode cX9_feed 23 = .ok (.istore_n 3, 1) := by decide +kernel
theorem dX9_feed_24 : decode cX9_feed 24 = .ok (.iload_n 3, 1) := by decide +kernel
theorem dX9_feed_25 : decode cX9_feed 25 = .ok (.iload_n 2, 1) := by decide +kernel
theorem dX9_feed_26 : decode cX9_feed 26 = .ok (.if_icmp .ge 21, 3) := by decide +kernel
theorem dX9_feed_29 : decode cX9_feed 29 = .ok (.aload_n 0, 1) := by decide +kernel
theorem dX9_feed_30 : decode cX9_feed 30 = .ok (.getfield 43, 3) := by decide +kernel
theorem dX9_feed_33 : decode cX9_feed 33 = .ok (.iload_n 1, 1) := by decide +kernel
theorem dX9_feed_34 : decode cX9_feed 34 = .ok (.iload_n 3, 1) := by decide +kernel
theorem dX9_feed_35 : decode cX9_feed 35 = .ok (.invokestatic 203, 3) := by decide +kernel
theorem dX9_feed_38 : decode cX9_feed 38 = .ok (.invokevirtual 207, 3) := by decide +kernel
theorem dX9_feed_41 : decode cX9_feed 41 = .ok (.iinc 3 1, 3) := by decide +kernel
theorem dX9_feed_44 : decode cX9_feed 44 = .ok (.goto (-20), 3) := by decide +kernel
theorem dX9_feed_47 : decode cX9_feed 47 = .ok (.aload_n 0, 1) := by decide +kernel
theorem dX9_feed_48 : decode cX9_feed 48 = .ok (.getfield 43, 3) := by decide +kernel
theorem dX9_feed_51 : decode cX9_feed 51 = .ok (.getfield 200, 3) := by decide +kernel
theorem dX9_feed_54 : decode cX9_feed 54 = .ok (.ireturn, 1) := by decide +kernel
theorem dX9_clear_0 : decode cX9_clear 0 = .ok (.aload_n 0, 1) := by decide +kernel
theorem dX9_clear_1 : decode cX9_clear 1 = .ok (.getfield 43, 3) := by decide +kernel
theorem dX9_clear_4 : decode cX9_clear 4 = .ok (.getfield 200, 3) := by decide +kernel
theorem dX9_clear_7 : decode cX9_clear 7 = .ok (.istore_n 1, 1) := by decide +kernel
theorem dX9_clear_8 : decode cX9_clear 8 = .ok (.aload_n 0, 1) := by decide +kernel
theorem dX9_clear_9 : decode cX9_clear 9 = .ok (.getfield 43, 3) := by decide +kernel
theorem dX9_clear_12 : decode cX9_clear 12 = .ok (.iconst 0, 1) := by decide +kernel
theorem dX9_clear_13 : decode cX9_clear 13 = .ok (.putfield 200, 3) := by decide +kernel
theorem dX9_clear_16 : decode cX9_clear 16 = .ok (.iload_n 1, 1) := by decide +kernel
theorem dX9_clear_17 : decode cX9_clear 17 = .ok (.ireturn, 1) := by decide +kernel
theorem dX9_line_0 : decode cX9_line 0 = .ok (.iload_n 1, 1) := by decide +kernel
theorem dX9_line_1 : decode cX9_line 1 = .ok (.invokestatic 210, 3) := by decide +kernel
theorem dX9_line_4 : decode cX9_line 4 = .ok (.ifCond .ne 5, 3) := by decide +kernel
theorem dX9_line_7 : decode cX9_line 7 = .ok (.iconst (-1), 1) := by decide +kernel
theorem dX9_line_8 : decode cX9_line 8 = .ok (.ireturn, 1) := by decide +kernel
theorem dX9_line_9 : decode cX9_line 9 = .ok (.aload_n 0, 1) := by decide +kernel
theorem dX9_line_10 : decode cX9_line 10 = .ok (.getfield 54, 3) := by decide +kernel
theorem dX9_line_13 : decode cX9_line 13 = .ok (.invokeinterface 109 1, 5) := by decide +kernel
theorem dX9_line_18 : decode cX9_line 18 = .ok (.bipush 8, 2) := by decide +kernel
theorem dX9_line_20 : decode cX9_line 20 = .ok (.if_icmp .lt 6, 3) := by decide +kernel
theorem dX9_line_23 : decode cX9_line 23 = .ok (.bipush (-2), 2) := by decide +kernel
theorem dX9_line_25 : decode cX9_line 25 = .ok (.ireturn, 1) := by decide +kernel
theorem dX9_line_26 : decode cX9_line 26 = .ok (.aload_n 0, 1) := by decide +kernel
theorem dX9_line_27 : decode cX9_line 27 = .ok (.getfield 50, 3) := by decide +kernel
theorem dX9_line_30 : decode cX9_line 30 = .ok (.aload_n 0, 1) := by decide +kernel
theorem dX9_line_31 : decode cX9_line 31 = .ok (.getfield 43, 3) := by decide +kernel
theorem dX9_line_34 : decode cX9_line 34 = .ok (.aload_n 0, 1) := by decide +kernel
theorem dX9_line_35 : decode cX9_line 35 = .ok (.getfield 36, 3) := by decide +kernel
theorem dX9_line_38 : decode cX9_line 38 = .ok (.invokevirtual 213, 3) := by decide +kernel
theorem dX9_line_41 : decode cX9_line 41 = .ok (.pop, 1) := by decide +kernel
theorem dX9_line_42 : decode cX9_line 42 = .ok (.aload_n 0, 1) := by decide +kernel
theorem dX9_line_43 : decode cX9_line 43 = .ok (.getfield 50, 3) := by decide +kernel
theorem dX9_line_46 : decode cX9_line 46 = .ok (.getfield 217, 3) := by decide +kernel
theorem dX9_line_49 : decode cX9_line 49 = .ok (.iconst (-1), 1) := by decide +kernel
theorem dX9_line_50 : decode cX9_line 50 = .ok (.if_icmp .eq 14, 3) := by decide +kernel
theorem dX9_line_53 : decode cX9_line 53 = .ok (.bipush (-100), 2) := by decide +kernel
theorem dX9_line_55 : decode cX9_line 55 = .ok (.aload_n 0, 1) := by decide +kernel
theorem dX9_line_56 : decode cX9_line 56 = .ok (.getfield 50, 3) := by decide +kernel
theorem dX9_line_59 : decode cX9_line 59 = .ok (.getfield 217, 3) := by decide +kernel
theorem dX9_line_62 : decode cX9_line 62 = .ok (.isub, 1) := by decide +kernel
theorem dX9_line_63 : decode cX9_line 63 = .ok (.ireturn, 1) := by decide +kernel
theorem dX9_line_64 : decode cX9_line 64 = .ok (.aload_n 0, 1) := by decide +kernel
theorem dX9_line_65 : decode cX9_line 65 = .ok (.getfield 54, 3) := by decide +kernel
theorem dX9_line_68 : decode cX9_line 68 = .ok (.new 220, 3) := by decide +kernel
theorem dX9_line_71 : decode cX9_line 71 = .ok (.dup, 1) := by decide +kernel
theorem dX9_line_72 : decode cX9_line 72 = .ok (.aload_n 0, 1) := by decide +kernel
theorem dX9_line_73 : decode cX9_line 73 = .ok (.getfield 43, 3) := by decide +kernel
theorem dX9_line_76 : decode cX9_line 76 = .ok (.iload_n 1, 1) := by decide +kernel
theorem dX9_line_77 : decode cX9_line 77 = .ok (.iload_n 2, 1) := by decide +kernel
theorem dX9_line_78 : decode cX9_line 78 = .ok (.invokespecial 222, 3) := by decide +kernel
theorem dX9_line_81 : decode cX9_line 81 = .ok (.invokeinterface 123 2, 5) := by decide +kernel
theorem dX9_line_86 : decode cX9_line 86 = .ok (.pop, 1) := by decide +kernel
theorem dX9_line_87 : decode cX9_line 87 = .ok (.aload_n 0, 1) := by decide +kernel
theorem dX9_line_88 : decode cX9_line 88 = .ok (.getfield 43, 3) := by decide +kernel
theorem dX9_line_91 : decode cX9_line 91 = .ok (.iconst 0, 1) := by decide +kernel
theorem dX9_line_92 : decode cX9_line 92 = .ok (.putfield 200, 3) := by decide +kernel
theorem dX9_line_95 : decode cX9_line 95 = .ok (.aload_n 0, 1) := by decide +kernel
theorem dX9_line_96 : decode cX9_line 96 = .ok (.getfield 54, 3) := by decide +kernel
theorem dX9_line_99 : decode cX9_line 99 = .ok (.invokeinterface 109 1, 5) := by decide +kernel
theorem dX9_line_104 : decode cX9_line 104 = .ok (.iconst 1, 1) := by decide +kernel
theorem dX9_line_105 : decode cX9_line 105 = .ok (.isub, 1) := by decide +kernel
theorem dX9_line_106 : decode cX9_line 106 = .ok (.ireturn, 1) := by decide +kernel
theorem dX9_thin_0 : decode cX9_thin 0 = .ok (.aload_n 0, 1) := by decide +kernel
theorem dX9_thin_1 : decode cX9_thin 1 = .ok (.iload_n 1, 1) := by decide +kernel
theorem dX9_thin_2 : decode cX9_thin 2 = .ok (.invokevirtual 225, 3) := by decide +kernel
theorem dX9_thin_5 : decode cX9_thin 5 = .ok (.astore_n 3, 1) := by decide +kernel
theorem dX9_thin_6 : decode cX9_thin 6 = .ok (.aload_n 3, 1) := by decide +kernel
theorem dX9_thin_7 : decode cX9_thin 7 = .ok (.ifnull 10, 3) := by decide +kernel
theorem dX9_thin_10 : decode cX9_thin 10 = .ok (.iload_n 2, 1) := by decide +kernel
theorem dX9_thin_11 : decode cX9_thin 11 = .ok (.invokestatic 210, 3) := by decide +kernel
theorem dX9_thin_14 : decode cX9_thin 14 = .ok (.ifCond .ne 5, 3) := by decide +kernel
theorem dX9_thin_17 : decode cX9_thin 17 = .ok (.iconst (-1), 1) := by decide +kernel
theorem dX9_thin_18 : decode cX9_thin 18 = .ok (.ireturn, 1) := by decide +kernel
theorem dX9_thin_19 : decode cX9_thin 19 = .ok (.aload_n 3, 1) := by decide +kernel
theorem dX9_thin_20 : decode cX9_thin 20 = .ok (.getfield 229, 3) := by decide +kernel
theorem dX9_thin_23 : decode cX9_thin 23 = .ok (.istore 4, 2) := by decide +kernel
theorem dX9_thin_25 : decode cX9_thin 25 = .ok (.aload_n 3, 1) := by decide +kernel
theorem dX9_thin_26 : decode cX9_thin 26 = .ok (.iload_n 2, 1) := by decide +kernel
theorem dX9_thin_27 : decode cX9_thin 27 = .ok (.putfield 229, 3) := by decide +kernel
theorem dX9_thin_30 : decode cX9_thin 30 = .ok (.iload 4, 2) := by decide +kernel
theorem dX9_thin_32 : decode cX9_thin 32 = .ok (.ireturn, 1) := by decide +kernel
theorem dX9_holds_0 : decode cX9_holds 0 = .ok (.aload_n 0, 1) := by decide +kernel
theorem dX9_holds_1 : decode cX9_holds 1 = .ok (.iload_n 1, 1) := by decide +kernel
theorem dX9_holds_2 : decode cX9_holds 2 = .ok (.invokevirtual 225, 3) := by decide +kernel
theorem dX9_holds_5 : decode cX9_holds 5 = .ok (.astore_n 2, 1) := by decide +kernel
theorem dX9_holds_6 : decode cX9_holds 6 = .ok (.aload_n 2, 1) := by decide +kernel
theorem dX9_holds_7 : decode cX9_holds 7 = .ok (.ifnonnull 5, 3) := by decide +kernel
theorem dX9_holds_10 : decode cX9_holds 10 = .ok (.iconst (-1), 1) := by decide +kernel
theorem dX9_holds_11 : decode cX9_holds 11 = .ok (.ireturn, 1) := by decide +kernel
theorem dX9_holds_12 : decode cX9_holds 12 = .ok (.aload_n 0, 1) := by decide +kernel
theorem dX9_holds_13 : decode cX9_holds 13 = .ok (.aload_n 0, 1) := by decide +kernel
theorem dX9_holds_14 : decode cX9_holds 14 = .ok (.getfield 16, 3) := by decide +kernel
theorem dX9_holds_17 : decode cX9_holds 17 = .ok (.invokevirtual 178, 3) := by decide +kernel
theorem dX9_holds_20 : decode cX9_holds 20 = .ok (.aload_n 0, 1) := by decide +kernel
theorem dX9_holds_21 : decode cX9_holds 21 = .ok (.getfield 50, 3) := by decide +kernel
theorem dX9_holds_24 : decode cX9_holds 24 = .ok (.aload_n 2, 1) := by decide +kernel
theorem dX9_holds_25 : decode cX9_holds 25 = .ok (.getfield 232, 3) := by decide +kernel
theorem dX9_holds_28 : decode cX9_holds 28 = .ok (.aload_n 0, 1) := by decide +kernel
theorem dX9_holds_29 : decode cX9_holds 29 = .ok (.getfield 36, 3) := by decide +kernel
theorem dX9_holds_32 : decode cX9_holds 32 = .ok (.invokevirtual 213, 3) := by decide +kernel
theorem dX9_holds_35 : decode cX9_holds 35 = .ok (.ifCond .eq 7, 3) := by decide +kernel
theorem dX9_holds_38 : decode cX9_holds 38 = .ok (.iconst 1, 1) := by decide +kernel
theorem dX9_holds_39 : decode cX9_holds 39 = .ok (.goto 4, 3) := by decide +kernel
theorem dX9_holds_42 : decode cX9_holds 42 = .ok (.iconst 0, 1) := by decide +kernel
theorem dX9_holds_43 : decode cX9_holds 43 = .ok (.ireturn, 1) := by decide +kernel
theorem dX9_of_0 : decode cX9_of 0 = .ok (.aload_n 0, 1) := by decide +kernel
theorem dX9_of_1 : decode cX9_of 1 = .ok (.iload_n 1, 1) := by decide +kernel
theorem dX9_of_2 : decode cX9_of 2 = .ok (.invokevirtual 225, 3) := by decide +kernel
theorem dX9_of_5 : decode cX9_of 5 = .ok (.astore_n 3, 1) := by decide +kernel
theorem dX9_of_6 : decode cX9_of 6 = .ok (.aload_n 3, 1) := by decide +kernel
theorem dX9_of_7 : decode cX9_of 7 = .ok (.ifnonnull 5, 3) := by decide +kernel
theorem dX9_of_10 : decode cX9_of 10 = .ok (.iconst (-1), 1) := by decide +kernel
theorem dX9_of_11 : decode cX9_of 11 = .ok (.ireturn, 1) := by decide +kernel
theorem dX9_of_12 : decode cX9_of 12 = .ok (.iload_n 2, 1) := by decide +kernel
theorem dX9_of_13 : decode cX9_of 13 = .ok (.tableswitch 89 0 6 #[43, 48, 61, 66, 71, 76, 81], 43) := by decide +kernel
theorem dX9_of_56 : decode cX9_of 56 = .ok (.aload_n 3, 1) := by decide +kernel
theorem dX9_of_57 : decode cX9_of 57 = .ok (.getfield 229, 3) := by decide +kernel
theorem dX9_of_60 : decode cX9_of 60 = .ok (.ireturn, 1) := by decide +kernel
theorem dX9_of_61 : decode cX9_of 61 = .ok (.aload_n 3, 1) := by decide +kernel
theorem dX9_of_62 : decode cX9_of 62 = .ok (.getfield 235, 3) := by decide +kernel
theorem dX9_of_65 : decode cX9_of 65 = .ok (.ifCond .eq 7, 3) := by decide +kernel
theorem dX9_of_68 : decode cX9_of 68 = .ok (.iconst 1, 1) := by decide +kernel
theorem dX9_of_69 : decode cX9_of 69 = .ok (.goto 4, 3) := by decide +kernel
theorem dX9_of_72 : decode cX9_of 72 = .ok (.iconst 0, 1) := by decide +kernel
theorem dX9_of_73 : decode cX9_of 73 = .ok (.ireturn, 1) := by decide +kernel
theorem dX9_of_74 : decode cX9_of 74 = .ok (.aload_n 3, 1) := by decide +kernel
theorem dX9_of_75 : decode cX9_of 75 = .ok (.getfield 238, 3) := by decide +kernel
theorem dX9_of_78 : decode cX9_of 78 = .ok (.ireturn, 1) := by decide +kernel
theorem dX9_of_79 : decode cX9_of 79 = .ok (.aload_n 3, 1) := by decide +kernel
theorem dX9_of_80 : decode cX9_of 80 = .ok (.getfield 241, 3) := by decide +kernel
theorem dX9_of_83 : decode cX9_of 83 = .ok (.ireturn, 1) := by decide +kernel
theorem dX9_of_84 : decode cX9_of 84 = .ok (.aload_n 3, 1) := by decide +kernel
theorem dX9_of_85 : decode cX9_of 85 = .ok (.getfield 244, 3) := by decide +kernel
theorem dX9_of_88 : decode cX9_of 88 = .ok (.ireturn, 1) := by decide +kernel
theorem dX9_of_89 : decode cX9_of 89 = .ok (.aload_n 3, 1) := by decide +kernel
theorem dX9_of_90 : decode cX9_of 90 = .ok (.getfield 247, 3) := by decide +kernel
theorem dX9_of_93 : decode cX9_of 93 = .ok (.ireturn, 1) := by decide +kernel
theorem dX9_of_94 : decode cX9_of 94 = .ok (.aload_n 3, 1) := by decide +kernel
theorem dX9_of_95 : decode cX9_of 95 = .ok (.getfield 232, 3) := by decide +kernel
theorem dX9_of_98 : decode cX9_of 98 = .ok (.getfield 200, 3) := by decide +kernel
theorem dX9_of_101 : decode cX9_of 101 = .ok (.ireturn, 1) := by decide +kernel
theorem dX9_of_102 : decode cX9_of 102 = .ok (.iconst (-1), 1) := by decide +kernel
theorem dX9_of_103 : decode cX9_of 103 = .ok (.ireturn, 1) := by decide +kernel
theorem dX9_fire_0 : decode cX9_fire 0 = .ok (.aload_n 0, 1) := by decide +kernel
theorem dX9_fire_1 : decode cX9_fire 1 = .ok (.getfield 250, 3) := by decide +kernel
theorem dX9_fire_4 : decode cX9_fire 4 = .ok (.istore_n 1, 1) := by decide +kernel
theorem dX9_fire_5 : decode cX9_fire 5 = .ok (.aload_n 0, 1) := by decide +kernel
theorem dX9_fire_6 : decode cX9_fire 6 = .ok (.dup, 1) := by decide +kernel
theorem dX9_fire_7 : decode cX9_fire 7 = .ok (.getfield 250, 3) := by decide +kernel
theorem dX9_fire_10 : decode cX9_fire 10 = .ok (.iconst 1, 1) := by decide +kernel
theorem dX9_fire_11 : decode cX9_fire 11 = .ok (.iadd, 1) := by decide +kernel
theorem dX9_fire_12 : decode cX9_fire 12 = .ok (.putfield 250, 3) := by decide +kernel
theorem dX9_fire_15 : decode cX9_fire 15 = .ok (.aload_n 0, 1) := by decide +kernel
theorem dX9_fire_16 : decode cX9_fire 16 = .ok (.getfield 253, 3) := by decide +kernel
theorem dX9_fire_19 : decode cX9_fire 19 = .ok (.ifCond .le 10, 3) := by decide +kernel
theorem dX9_fire_22 : decode cX9_fire 22 = .ok (.aload_n 0, 1) := by decide +kernel
theorem dX9_fire_23 : decode cX9_fire 23 = .ok (.invokevirtual 256, 3) := by decide +kernel
theorem dX9_fire_26 : decode cX9_fire 26 = .ok (.goto 8, 3) := by decide +kernel
theorem dX9_fire_29 : decode cX9_fire 29 = .ok (.aload_n 0, 1) := by decide +kernel
theorem dX9_fire_30 : decode cX9_fire 30 = .ok (.iload_n 1, 1) := by decide +kernel
theorem dX9_fire_31 : decode cX9_fire 31 = .ok (.invokevirtual 259, 3) := by decide +kernel
theorem dX9_fire_34 : decode cX9_fire 34 = .ok (.istore_n 2, 1) := by decide +kernel
theorem dX9_fire_35 : decode cX9_fire 35 = .ok (.iconst 0, 1) := by decide +kernel
theorem dX9_fire_36 : decode cX9_fire 36 = .ok (.istore_n 3, 1) := by decide +kernel
theorem dX9_fire_37 : decode cX9_fire 37 = .ok (.iload_n 3, 1) := by decide +kernel
theorem dX9_fire_38 : decode cX9_fire 38 = .ok (.iconst 5, 1) := by decide +kernel
theorem dX9_fire_39 : decode cX9_fire 39 = .ok (.if_icmp .ge 16, 3) := by decide +kernel
theorem dX9_fire_42 : decode cX9_fire 42 = .ok (.aload_n 0, 1) := by decide +kernel
theorem dX9_fire_43 : decode cX9_fire 43 = .ok (.getfield 16, 3) := by decide +kernel
theorem dX9_fire_46 : decode cX9_fire 46 = .ok (.iload_n 3, 1) := by decide +kernel
theorem dX9_fire_47 : decode cX9_fire 47 = .ok (.iconst 0, 1) := by decide +kernel
theorem dX9_fire_48 : decode cX9_fire 48 = .ok (.iastore, 1) := by decide +kernel
theorem dX9_fire_49 : decode cX9_fire 49 = .ok (.iinc 3 1, 3) := by decide +kernel
theorem dX9_fire_52 : decode cX9_fire 52 = .ok (.goto (-15), 3) := by decide +kernel
theorem dX9_fire_55 : decode cX9_fire 55 = .ok (.iload_n 2, 1) := by decide +kernel
theorem dX9_fire_56 : decode cX9_fire 56 = .ok (.ireturn, 1) := by decide +kernel
theorem dX9_rest_0 : decode cX9_rest 0 = .ok (.iload_n 1, 1) := by decide +kernel
theorem dX9_rest_1 : decode cX9_rest 1 = .ok (.ifCond .lt 9, 3) := by decide +kernel
theorem dX9_rest_4 : decode cX9_rest 4 = .ok (.iload_n 1, 1) := by decide +kernel
theorem dX9_rest_5 : decode cX9_rest 5 = .ok (.bipush 20, 2) := by decide +kernel
theorem dX9_rest_7 : decode cX9_rest 7 = .ok (.if_icmp .le 5, 3) := by decide +kernel
theorem dX9_rest_10 : decode cX9_rest 10 = .ok (.iconst (-1), 1) := by decide +kernel
theorem dX9_rest_11 : decode cX9_rest 11 = .ok (.ireturn, 1) := by decide +kernel
theorem dX9_rest_12 : decode cX9_rest 12 = .ok (.aload_n 0, 1) := by decide +kernel
theorem dX9_rest_13 : decode cX9_rest 13 = .ok (.getfield 262, 3) := by decide +kernel
theorem dX9_rest_16 : decode cX9_rest 16 = .ok (.istore_n 2, 1) := by decide +kernel
theorem dX9_rest_17 : decode cX9_rest 17 = .ok (.aload_n 0, 1) := by decide +kernel
theorem dX9_rest_18 : decode cX9_rest 18 = .ok (.iload_n 1, 1) := by decide +kernel
theorem dX9_rest_19 : decode cX9_rest 19 = .ok (.putfield 262, 3) := by decide +kernel
theorem dX9_rest_22 : decode cX9_rest 22 = .ok (.iload_n 2, 1) := by decide +kernel
theorem dX9_rest_23 : decode cX9_rest 23 = .ok (.ireturn, 1) := by decide +kernel
theorem dX9_many_0 : decode cX9_many 0 = .ok (.iload_n 1, 1) := by decide +kernel
theorem dX9_many_1 : decode cX9_many 1 = .ok (.tableswitch 103 0 7 #[47, 57, 67, 72, 77, 85, 90, 98], 47) := by decide +kernel
theorem dX9_many_48 : decode cX9_many 48 = .ok (.aload_n 0, 1) := by decide +kernel
theorem dX9_many_49 : decode cX9_many 49 = .ok (.getfield 29, 3) := by decide +kernel
theorem dX9_many_52 : decode cX9_many 52 = .ok (.invokeinterface 109 1, 5) := by decide +kernel
theorem dX9_many_57 : decode cX9_many 57 = .ok (.ireturn, 1) := by decide +kernel
theorem dX9_many_58 : decode cX9_many 58 = .ok (.aload_n 0, 1) := by decide +kernel
theorem dX9_many_59 : decode cX9_many 59 = .ok (.getfield 54, 3) := by decide +kernel
theorem dX9_many_62 : decode cX9_many 62 = .ok (.invokeinterface 109 1, 5) := by decide +kernel
theorem dX9_many_67 : decode cX9_many 67 = .ok (.ireturn, 1) := by decide +kernel
theorem dX9_many_68 : decode cX9_many 68 = .ok (.aload_n 0, 1) := by decide +kernel
theorem dX9_many_69 : decode cX9_many 69 = .ok (.getfield 250, 3) := by decide +kernel
theorem dX9_many_72 : decode cX9_many 72 = .ok (.ireturn, 1) := by decide +kernel
theorem dX9_many_73 : decode cX9_many 73 = .ok (.aload_n 0, 1) := by decide +kernel
theorem dX9_many_74 : decode cX9_many 74 = .ok (.getfield 265, 3) := by decide +kernel
theorem dX9_many_77 : decode cX9_many 77 = .ok (.ireturn, 1) := by decide +kernel
theorem dX9_many_78 : decode cX9_many 78 = .ok (.aload_n 0, 1) := by decide +kernel
theorem dX9_many_79 : decode cX9_many 79 = .ok (.getfield 60, 3) := by decide +kernel
theorem dX9_many_82 : decode cX9_many 82 = .ok (.getfield 268, 3) := by decide +kernel
theorem dX9_many_85 : decode cX9_many 85 = .ok (.ireturn, 1) := by decide +kernel
theorem dX9_many_86 : decode cX9_many 86 = .ok (.aload_n 0, 1) := by decide +kernel
theorem dX9_many_87 : decode cX9_many 87 = .ok (.getfield 269, 3) := by decide +kernel
theorem dX9_many_90 : decode cX9_many 90 = .ok (.ireturn, 1) := by decide +kernel
theorem dX9_many_91 : decode cX9_many 91 = .ok (.aload_n 0, 1) := by decide +kernel
theorem dX9_many_92 : decode cX9_many 92 = .ok (.getfield 60, 3) := by decide +kernel
theorem dX9_many_95 : decode cX9_many 95 = .ok (.invokevirtual 272, 3) := by decide +kernel
theorem dX9_many_98 : decode cX9_many 98 = .ok (.ireturn, 1) := by decide +kernel
theorem dX9_many_99 : decode cX9_many 99 = .ok (.aload_n 0, 1) := by decide +kernel
theorem dX9_many_100 : decode cX9_many 100 = .ok (.getfield 253, 3) := by decide +kernel
theorem dX9_many_103 : decode cX9_many 103 = .ok (.ireturn, 1) := by decide +kernel
theorem dX9_many_104 : decode cX9_many 104 = .ok (.iconst (-1), 1) := by decide +kernel
theorem dX9_many_105 : decode cX9_many 105 = .ok (.ireturn, 1) := by decide +kernel
theorem dX9_raw_0 : decode cX9_raw 0 = .ok (.aload_n 0, 1) := by decide +kernel
theorem dX9_raw_1 : decode cX9_raw 1 = .ok (.getfield 60, 3) := by decide +kernel
theorem dX9_raw_4 : decode cX9_raw 4 = .ok (.iload_n 1, 1) := by decide +kernel
theorem dX9_raw_5 : decode cX9_raw 5 = .ok (.invokevirtual 273, 3) := by decide +kernel
theorem dX9_raw_8 : decode cX9_raw 8 = .ok (.ifCond .eq 13, 3) := by decide +kernel
theorem dX9_raw_11 : decode cX9_raw 11 = .ok (.iload_n 2, 1) := by decide +kernel
theorem dX9_raw_12 : decode cX9_raw 12 = .ok (.ifCond .lt 9, 3) := by decide +kernel
theorem dX9_raw_15 : decode cX9_raw 15 = .ok (.iload_n 2, 1) := by decide +kernel
theorem dX9_raw_16 : decode cX9_raw 16 = .ok (.bipush 7, 2) := by decide +kernel
theorem dX9_raw_18 : decode cX9_raw 18 = .ok (.if_icmp .le 5, 3) := by decide +kernel
theorem dX9_raw_21 : decode cX9_raw 21 = .ok (.iconst (-1), 1) := by decide +kernel
theorem dX9_raw_22 : decode cX9_raw 22 = .ok (.ireturn, 1) := by decide +kernel
theorem dX9_raw_23 : decode cX9_raw 23 = .ok (.iload_n 2, 1) := by decide +kernel
theorem dX9_raw_24 : decode cX9_raw 24 = .ok (.ifCond .ne 12, 3) := by decide +kernel
theorem dX9_raw_27 : decode cX9_raw 27 = .ok (.aload_n 0, 1) := by decide +kernel
theorem dX9_raw_28 : decode cX9_raw 28 = .ok (.getfield 60, 3) := by decide +kernel
theorem dX9_raw_31 : decode cX9_raw 31 = .ok (.iload_n 1, 1) := by decide +kernel
theorem dX9_raw_32 : decode cX9_raw 32 = .ok (.invokevirtual 274, 3) := by decide +kernel
theorem dX9_raw_35 : decode cX9_raw 35 = .ok (.ireturn, 1) := by decide +kernel
theorem dX9_raw_36 : decode cX9_raw 36 = .ok (.iload_n 2, 1) := by decide +kernel
theorem dX9_raw_37 : decode cX9_raw 37 = .ok (.iconst 1, 1) := by decide +kernel
theorem dX9_raw_38 : decode cX9_raw 38 = .ok (.if_icmp .ne 12, 3) := by decide +kernel
theorem dX9_raw_41 : decode cX9_raw 41 = .ok (.aload_n 0, 1) := by decide +kernel
theorem dX9_raw_42 : decode cX9_raw 42 = .ok (.getfield 60, 3) := by decide +kernel
theorem dX9_raw_45 : decode cX9_raw 45 = .ok (.iload_n 1, 1) := by decide +kernel
theorem dX9_raw_46 : decode cX9_raw 46 = .ok (.invokevirtual 277, 3) := by decide +kernel
theorem dX9_raw_49 : decode cX9_raw 49 = .ok (.ireturn, 1) := by decide +kernel
theorem dX9_raw_50 : decode cX9_raw 50 = .ok (.aload_n 0, 1) := by decide +kernel
theorem dX9_raw_51 : decode cX9_raw 51 = .ok (.getfield 60, 3) := by decide +kernel
theorem dX9_raw_54 : decode cX9_raw 54 = .ok (.iload_n 1, 1) := by decide +kernel
theorem dX9_raw_55 : decode cX9_raw 55 = .ok (.aload_n 0, 1) := by decide +kernel
theorem dX9_raw_56 : decode cX9_raw 56 = .ok (.getfield 64, 3) := by decide +kernel
theorem dX9_raw_59 : decode cX9_raw 59 = .ok (.invokevirtual 280, 3) := by decide +kernel
theorem dX9_raw_62 : decode cX9_raw 62 = .ok (.iload_n 2, 1) := by decide +kernel
theorem dX9_raw_63 : decode cX9_raw 63 = .ok (.bipush 7, 2) := by decide +kernel
theorem dX9_raw_65 : decode cX9_raw 65 = .ok (.if_icmp .ge 12, 3) := by decide +kernel
theorem dX9_raw_68 : decode cX9_raw 68 = .ok (.aload_n 0, 1) := by decide +kernel
theorem dX9_raw_69 : decode cX9_raw 69 = .ok (.getfield 64, 3) := by decide +kernel
theorem dX9_raw_72 : decode cX9_raw 72 = .ok (.iload_n 2, 1) := by decide +kernel
theorem dX9_raw_73 : decode cX9_raw 73 = .ok (.iconst 2, 1) := by decide +kernel
theorem dX9_raw_74 : decode cX9_raw 74 = .ok (.isub, 1) := by decide +kernel
theorem dX9_raw_75 : decode cX9_raw 75 = .ok (.iaload, 1) := by decide +kernel
theorem dX9_raw_76 : decode cX9_raw 76 = .ok (.ireturn, 1) := by decide +kernel
theorem dX9_raw_77 : decode cX9_raw 77 = .ok (.aload_n 0, 1) := by decide +kernel
theorem dX9_raw_78 : decode cX9_raw 78 = .ok (.aload_n 0, 1) := by decide +kernel
theorem dX9_raw_79 : decode cX9_raw 79 = .ok (.getfield 64, 3) := by decide +kernel
theorem dX9_raw_82 : decode cX9_raw 82 = .ok (.invokevirtual 178, 3) := by decide +kernel
theorem dX9_raw_85 : decode cX9_raw 85 = .ok (.aload_n 0, 1) := by decide +kernel
theorem dX9_raw_86 : decode cX9_raw 86 = .ok (.invokevirtual 284, 3) := by decide +kernel
theorem dX9_raw_89 : decode cX9_raw 89 = .ok (.ireturn, 1) := by decide +kernel
theorem dX9_again_0 : decode cX9_again 0 = .ok (.aload_n 0, 1) := by decide +kernel
theorem dX9_again_1 : decode cX9_again 1 = .ok (.getfield 60, 3) := by decide +kernel
theorem dX9_again_4 : decode cX9_again 4 = .ok (.iload_n 1, 1) := by decide +kernel
theorem dX9_again_5 : decode cX9_again 5 = .ok (.invokevirtual 273, 3) := by decide +kernel
theorem dX9_again_8 : decode cX9_again 8 = .ok (.ifCond .ne 5, 3) := by decide +kernel
theorem dX9_again_11 : decode cX9_again 11 = .ok (.iconst (-1), 1) := by decide +kernel
theorem dX9_again_12 : decode cX9_again 12 = .ok (.ireturn, 1) := by decide +kernel
theorem dX9_again_13 : decode cX9_again 13 = .ok (.aload_n 0, 1) := by decide +kernel
theorem dX9_again_14 : decode cX9_again 14 = .ok (.getfield 60, 3) := by decide +kernel
theorem dX9_again_17 : decode cX9_again 17 = .ok (.iload_n 1, 1) := by decide +kernel
theorem dX9_again_18 : decode cX9_again 18 = .ok (.aload_n 0, 1) := by decide +kernel
theorem dX9_again_19 : decode cX9_again 19 = .ok (.getfield 16, 3) := by decide +kernel
theorem dX9_again_22 : decode cX9_again 22 = .ok (.invokevirtual 280, 3) := by decide +kernel
theorem dX9_again_25 : decode cX9_again 25 = .ok (.aload_n 0, 1) := by decide +kernel
theorem dX9_again_26 : decode cX9_again 26 = .ok (.getfield 16, 3) := by decide +kernel
theorem dX9_again_29 : decode cX9_again 29 = .ok (.invokestatic 102, 3) := by decide +kernel
theorem dX9_again_32 : decode cX9_again 32 = .ok (.ireturn, 1) := by decide +kernel
theorem dX9_anew_0 : decode cX9_anew 0 = .ok (.aload_n 0, 1) := by decide +kernel
theorem dX9_anew_1 : decode cX9_anew 1 = .ok (.getfield 250, 3) := by decide +kernel
theorem dX9_anew_4 : decode cX9_anew 4 = .ok (.istore_n 1, 1) := by decide +kernel
theorem dX9_anew_5 : decode cX9_anew 5 = .ok (.aload_n 0, 1) := by decide +kernel
theorem dX9_anew_6 : decode cX9_anew 6 = .ok (.iconst 0, 1) := by decide +kernel
theorem dX9_anew_7 : decode cX9_anew 7 = .ok (.putfield 250, 3) := by decide +kernel
theorem dX9_anew_10 : decode cX9_anew 10 = .ok (.aload_n 0, 1) := by decide +kernel
theorem dX9_anew_11 : decode cX9_anew 11 = .ok (.iconst 0, 1) := by decide +kernel
theorem dX9_anew_12 : decode cX9_anew 12 = .ok (.putfield 265, 3) := by decide +kernel
theorem dX9_anew_15 : decode cX9_anew 15 = .ok (.aload_n 0, 1) := by decide +kernel
theorem dX9_anew_16 : decode cX9_anew 16 = .ok (.iconst 0, 1) := by decide +kernel
theorem dX9_anew_17 : decode cX9_anew 17 = .ok (.putfield 269, 3) := by decide +kernel
theorem dX9_anew_20 : decode cX9_anew 20 = .ok (.aload_n 0, 1) := by decide +kernel
theorem dX9_anew_21 : decode cX9_anew 21 = .ok (.iconst 0, 1) := by decide +kernel
theorem dX9_anew_22 : decode cX9_anew 22 = .ok (.putfield 253, 3) := by decide +kernel
theorem dX9_anew_25 : decode cX9_anew 25 = .ok (.aload_n 0, 1) := by decide +kernel
theorem dX9_anew_26 : decode cX9_anew 26 = .ok (.getfield 60, 3) := by decide +kernel
theorem dX9_anew_29 : decode cX9_anew 29 = .ok (.iconst 0, 1) := by decide +kernel
theorem dX9_anew_30 : decode cX9_anew 30 = .ok (.putfield 268, 3) := by decide +kernel
theorem dX9_anew_33 : decode cX9_anew 33 = .ok (.iconst 0, 1) := by decide +kernel
theorem dX9_anew_34 : decode cX9_anew 34 = .ok (.istore_n 2, 1) := by decide +kernel
theorem dX9_anew_35 : decode cX9_anew 35 = .ok (.iload_n 2, 1) := by decide +kernel
theorem dX9_anew_36 : decode cX9_anew 36 = .ok (.aload_n 0, 1) := by decide +kernel
theorem dX9_anew_37 : decode cX9_anew 37 = .ok (.getfield 54, 3) := by decide +kernel
theorem dX9_anew_40 : decode cX9_anew 40 = .ok (.invokeinterface 109 1, 5) := by decide +kernel
theorem dX9_anew_45 : decode cX9_anew 45 = .ok (.if_icmp .ge 25, 3) := by decide +kernel
theorem dX9_anew_48 : decode cX9_anew 48 = .ok (.aload_n 0, 1) := by decide +kernel
theorem dX9_anew_49 : decode cX9_anew 49 = .ok (.getfield 54, 3) := by decide +kernel
theorem dX9_anew_52 : decode cX9_anew 52 = .ok (.iload_n 2, 1) := by decide +kernel
theorem dX9_anew_53 : decode cX9_anew 53 = .ok (.invokeinterface 287 2, 5) := by decide +kernel
theorem dX9_anew_58 : decode cX9_anew 58 = .ok (.checkcast 220, 3) := by decide +kernel
theorem dX9_anew_61 : decode cX9_anew 61 = .ok (.invokevirtual 291, 3) := by decide +kernel
theorem dX9_anew_64 : decode cX9_anew 64 = .ok (.iinc 2 1, 3) := by decide +kernel
theorem dX9_anew_67 : decode cX9_anew 67 = .ok (.goto (-32), 3) := by decide +kernel
theorem dX9_anew_70 : decode cX9_anew 70 = .ok (.iload_n 1, 1) := by decide +kernel
theorem dX9_anew_71 : decode cX9_anew 71 = .ok (.ireturn, 1) := by decide +kernel
theorem dX9_isLayer_0 : decode cX9_isLayer 0 = .ok (.iload_n 0, 1) := by decide +kernel
theorem dX9_isLayer_1 : decode cX9_isLayer 1 = .ok (.ifCond .lt 12, 3) := by decide +kernel
theorem dX9_isLayer_4 : decode cX9_isLayer 4 = .ok (.iload_n 0, 1) := by decide +kernel
theorem dX9_isLayer_5 : decode cX9_isLayer 5 = .ok (.iconst 5, 1) := by decide +kernel
theorem dX9_isLayer_6 : decode cX9_isLayer 6 = .ok (.if_icmp .ge 7, 3) := by decide +kernel
theorem dX9_isLayer_9 : decode cX9_isLayer 9 = .ok (.iconst 1, 1) := by decide +kernel
theorem dX9_isLayer_10 : decode cX9_isLayer 10 = .ok (.goto 4, 3) := by decide +kernel
theorem dX9_isLayer_13 : decode cX9_isLayer 13 = .ok (.iconst 0, 1) := by decide +kernel
theorem dX9_isLayer_14 : decode cX9_isLayer 14 = .ok (.ireturn, 1) := by decide +kernel
theorem dX9_areCells_0 : decode cX9_areCells 0 = .ok (.iload_n 0, 1) := by decide +kernel
theorem dX9_areCells_1 : decode cX9_areCells 1 = .ok (.ifCond .lt 13, 3) := by decide +kernel
theorem dX9_areCells_4 : decode cX9_areCells 4 = .ok (.iload_n 0, 1) := by decide +kernel
theorem dX9_areCells_5 : decode cX9_areCells 5 = .ok (.ldc 101, 2) := by decide +kernel
theorem dX9_areCells_7 : decode cX9_areCells 7 = .ok (.if_icmp .gt 7, 3) := by decide +kernel
theorem dX9_areCells_10 : decode cX9_areCells 10 = .ok (.iconst 1, 1) := by decide +kernel
theorem dX9_areCells_11 : decode cX9_areCells 11 = .ok (.goto 4, 3) := by decide +kernel
theorem dX9_areCells_14 : decode cX9_areCells 14 = .ok (.iconst 0, 1) := by decide +kernel
theorem dX9_areCells_15 : decode cX9_areCells 15 = .ok (.ireturn, 1) := by decide +kernel
theorem dX9_isShare_0 : decode cX9_isShare 0 = .ok (.iload_n 0, 1) := by decide +kernel
theorem dX9_isShare_1 : decode cX9_isShare 1 = .ok (.iconst 1, 1) := by decide +kernel
theorem dX9_isShare_2 : decode cX9_isShare 2 = .ok (.if_icmp .lt 13, 3) := by decide +kernel
theorem dX9_isShare_5 : decode cX9_isShare 5 = .ok (.iload_n 0, 1) := by decide +kernel
theorem dX9_isShare_6 : decode cX9_isShare 6 = .ok (.bipush 100, 2) := by decide +kernel
theorem dX9_isShare_8 : decode cX9_isShare 8 = .ok (.if_icmp .gt 7, 3) := by decide +kernel
theorem dX9_isShare_11 : decode cX9_isShare 11 = .ok (.iconst 1, 1) := by decide +kernel
theorem dX9_isShare_12 : decode cX9_isShare 12 = .ok (.goto 4, 3) := by decide +kernel
theorem dX9_isShare_15 : decode cX9_isShare 15 = .ok (.iconst 0, 1) := by decide +kernel
theorem dX9_isShare_16 : decode cX9_isShare 16 = .ok (.ireturn, 1) := by decide +kernel
theorem dX9_isSpan_0 : decode cX9_isSpan 0 = .ok (.iload_n 0, 1) := by decide +kernel
theorem dX9_isSpan_1 : decode cX9_isSpan 1 = .ok (.ifCond .ge 5, 3) := by decide +kernel
theorem dX9_isSpan_4 : decode cX9_isSpan 4 = .ok (.iconst 0, 1) := by decide +kernel
theorem dX9_isSpan_5 : decode cX9_isSpan 5 = .ok (.ireturn, 1) := by decide +kernel
theorem dX9_isSpan_6 : decode cX9_isSpan 6 = .ok (.iload_n 0, 1) := by decide +kernel
theorem dX9_isSpan_7 : decode cX9_isSpan 7 = .ok (.bipush 100, 2) := by decide +kernel
theorem dX9_isSpan_9 : decode cX9_isSpan 9 = .ok (.idiv, 1) := by decide +kernel
theorem dX9_isSpan_10 : decode cX9_isSpan 10 = .ok (.istore_n 1, 1) := by decide +kernel
theorem dX9_isSpan_11 : decode cX9_isSpan 11 = .ok (.iload_n 0, 1) := by decide +kernel
theorem dX9_isSpan_12 : decode cX9_isSpan 12 = .ok (.bipush 100, 2) := by decide +kernel
theorem dX9_isSpan_14 : decode cX9_isSpan 14 = .ok (.irem, 1) := by decide +kernel
theorem dX9_isSpan_15 : decode cX9_isSpan 15 = .ok (.istore_n 2, 1) := by decide +kernel
theorem dX9_isSpan_16 : decode cX9_isSpan 16 = .ok (.iload_n 1, 1) := by decide +kernel
theorem dX9_isSpan_17 : decode cX9_isSpan 17 = .ok (.iload_n 2, 1) := by decide +kernel
theorem dX9_isSpan_18 : decode cX9_isSpan 18 = .ok (.if_icmp .gt 20, 3) := by decide +kernel
theorem dX9_isSpan_21 : decode cX9_isSpan 21 = .ok (.iload_n 2, 1) := by decide +kernel
theorem dX9_isSpan_22 : decode cX9_isSpan 22 = .ok (.bipush 16, 2) := by decide +kernel
theorem dX9_isSpan_24 : decode cX9_isSpan 24 = .ok (.if_icmp .ge 14, 3) := by decide +kernel
theorem dX9_isSpan_27 : decode cX9_isSpan 27 = .ok (.iload_n 2, 1) := by decide +kernel
theorem dX9_isSpan_28 : decode cX9_isSpan 28 = .ok (.iload_n 1, 1) := by decide +kernel
theorem dX9_isSpan_29 : decode cX9_isSpan 29 = .ok (.isub, 1) := by decide +kernel
theorem dX9_isSpan_30 : decode cX9_isSpan 30 = .ok (.iconst 3, 1) := by decide +kernel
theorem dX9_isSpan_31 : decode cX9_isSpan 31 = .ok (.if_icmp .gt 7, 3) := by decide +kernel
theorem dX9_isSpan_34 : decode cX9_isSpan 34 = .ok (.iconst 1, 1) := by decide +kernel
theorem dX9_isSpan_35 : decode cX9_isSpan 35 = .ok (.goto 4, 3) := by decide +kernel
theorem dX9_isSpan_38 : decode cX9_isSpan 38 = .ok (.iconst 0, 1) := by decide +kernel
theorem dX9_isSpan_39 : decode cX9_isSpan 39 = .ok (.ireturn, 1) := by decide +kernel
theorem dX9_cellsIn_0 : decode cX9_cellsIn 0 = .ok (.iconst 0, 1) := by decide +kernel
theorem dX9_cellsIn_1 : decode cX9_cellsIn 1 = .ok (.istore_n 1, 1) := by decide +kernel
theorem dX9_cellsIn_2 : decode cX9_cellsIn 2 = .ok (.aload_n 0, 1) := by decide +kernel
theorem dX9_cellsIn_3 : decode cX9_cellsIn 3 = .ok (.astore_n 2, 1) := by decide +kernel
theorem dX9_cellsIn_4 : decode cX9_cellsIn 4 = .ok (.aload_n 2, 1) := by decide +kernel
theorem dX9_cellsIn_5 : decode cX9_cellsIn 5 = .ok (.arraylength, 1) := by decide +kernel
theorem dX9_cellsIn_6 : decode cX9_cellsIn 6 = .ok (.istore_n 3, 1) := by decide +kernel
theorem dX9_cellsIn_7 : decode cX9_cellsIn 7 = .ok (.iconst 0, 1) := by decide +kernel
theorem dX9_cellsIn_8 : decode cX9_cellsIn 8 = .ok (.istore 4, 2) := by decide +kernel
theorem dX9_cellsIn_10 : decode cX9_cellsIn 10 = .ok (.iload 4, 2) := by decide +kernel
theorem dX9_cellsIn_12 : decode cX9_cellsIn 12 = .ok (.iload_n 3, 1) := by decide +kernel
theorem dX9_cellsIn_13 : decode cX9_cellsIn 13 = .ok (.if_icmp .ge 23, 3) := by decide +kernel
theorem dX9_cellsIn_16 : decode cX9_cellsIn 16 = .ok (.aload_n 2, 1) := by decide +kernel
theorem dX9_cellsIn_17 : decode cX9_cellsIn 17 = .ok (.iload 4, 2) := by decide +kernel
theorem dX9_cellsIn_19 : decode cX9_cellsIn 19 = .ok (.iaload, 1) := by decide +kernel
theorem dX9_cellsIn_20 : decode cX9_cellsIn 20 = .ok (.istore 5, 2) := by decide +kernel
theorem dX9_cellsIn_22 : decode cX9_cellsIn 22 = .ok (.iload_n 1, 1) := by decide +kernel
theorem dX9_cellsIn_23 : decode cX9_cellsIn 23 = .ok (.iload 5, 2) := by decide +kernel
theorem dX9_cellsIn_25 : decode cX9_cellsIn 25 = .ok (.invokestatic 92, 3) := by decide +kernel
theorem dX9_cellsIn_28 : decode cX9_cellsIn 28 = .ok (.iadd, 1) := by decide +kernel
theorem dX9_cellsIn_29 : decode cX9_cellsIn 29 = .ok (.istore_n 1, 1) := by decide +kernel
theorem dX9_cellsIn_30 : decode cX9_cellsIn 30 = .ok (.iinc 4 1, 3) := by decide +kernel
theorem dX9_cellsIn_33 : decode cX9_cellsIn 33 = .ok (.goto (-23), 3) := by decide +kernel
theorem dX9_cellsIn_36 : decode cX9_cellsIn 36 = .ok (.iload_n 1, 1) := by decide +kernel
theorem dX9_cellsIn_37 : decode cX9_cellsIn 37 = .ok (.ireturn, 1) := by decide +kernel
theorem dX9_letterIn_0 : decode cX9_letterIn 0 = .ok (.iload_n 0, 1) := by decide +kernel
theorem dX9_letterIn_1 : decode cX9_letterIn 1 = .ok (.bipush 8, 2) := by decide +kernel
theorem dX9_letterIn_3 : decode cX9_letterIn 3 = .ok (.iload_n 1, 1) := by decide +kernel
theorem dX9_letterIn_4 : decode cX9_letterIn 4 = .ok (.imul, 1) := by decide +kernel
theorem dX9_letterIn_5 : decode cX9_letterIn 5 = .ok (.iushr, 1) := by decide +kernel
theorem dX9_letterIn_6 : decode cX9_letterIn 6 = .ok (.sipush 255, 3) := by decide +kernel
theorem dX9_letterIn_9 : decode cX9_letterIn 9 = .ok (.iand, 1) := by decide +kernel
theorem dX9_letterIn_10 : decode cX9_letterIn 10 = .ok (.i2c, 1) := by decide +kernel
theorem dX9_letterIn_11 : decode cX9_letterIn 11 = .ok (.ireturn, 1) := by decide +kernel
theorem dX9_lettersIn_0 : decode cX9_lettersIn 0 = .ok (.iconst 0, 1) := by decide +kernel
theorem dX9_lettersIn_1 : decode cX9_lettersIn 1 = .ok (.istore_n 1, 1) := by decide +kernel
theorem dX9_lettersIn_2 : decode cX9_lettersIn 2 = .ok (.iload_n 1, 1) := by decide +kernel
theorem dX9_lettersIn_3 : decode cX9_lettersIn 3 = .ok (.iconst 4, 1) := by decide +kernel
theorem dX9_lettersIn_4 : decode cX9_lettersIn 4 = .ok (.if_icmp .ge 19, 3) := by decide +kernel
theorem dX9_lettersIn_7 : decode cX9_lettersIn 7 = .ok (.iload_n 0, 1) := by decide +kernel
theorem dX9_lettersIn_8 : decode cX9_lettersIn 8 = .ok (.iload_n 1, 1) := by decide +kernel
theorem dX9_lettersIn_9 : decode cX9_lettersIn 9 = .ok (.invokestatic 203, 3) := by decide +kernel
theorem dX9_lettersIn_12 : decode cX9_lettersIn 12 = .ok (.ifCond .ne 5, 3) := by decide +kernel
theorem dX9_lettersIn_15 : decode cX9_lettersIn 15 = .ok (.iload_n 1, 1) := by decide +kernel
theorem dX9_lettersIn_16 : decode cX9_lettersIn 16 = .ok (.ireturn, 1) := by decide +kernel
theorem dX9_lettersIn_17 : decode cX9_lettersIn 17 = .ok (.iinc 1 1, 3) := by decide +kernel
theorem dX9_lettersIn_20 : decode cX9_lettersIn 20 = .ok (.goto (-18), 3) := by decide +kernel
theorem dX9_lettersIn_23 : decode cX9_lettersIn 23 = .ok (.iconst 4, 1) := by decide +kernel
theorem dX9_lettersIn_24 : decode cX9_lettersIn 24 = .ok (.ireturn, 1) := by decide +kernel
theorem dX9_greatestDivisor_0 : decode cX9_greatestDivisor 0 = .ok (.iload_n 0, 1) := by decide +kernel
theorem dX9_greatestDivisor_1 : decode cX9_greatestDivisor 1 = .ok (.istore_n 2, 1) := by decide +kernel
theorem dX9_greatestDivisor_2 : decode cX9_greatestDivisor 2 = .ok (.iload_n 1, 1) := by decide +kernel
theorem dX9_greatestDivisor_3 : decode cX9_greatestDivisor 3 = .ok (.istore_n 3, 1) := by decide +kernel
theorem dX9_greatestDivisor_4 : decode cX9_greatestDivisor 4 = .ok (.iconst 0, 1) := by decide +kernel
theorem dX9_greatestDivisor_5 : decode cX9_greatestDivisor 5 = .ok (.istore 4, 2) := by decide +kernel
theorem dX9_greatestDivisor_7 : decode cX9_greatestDivisor 7 = .ok (.iload 4, 2) := by decide +kernel
theorem dX9_greatestDivisor_9 : decode cX9_greatestDivisor 9 = .ok (.bipush 64, 2) := by decide +kernel
theorem dX9_greatestDivisor_11 : decode cX9_greatestDivisor 11 = .ok (.if_icmp .ge 23, 3) := by decide +kernel
theorem dX9_greatestDivisor_14 : decode cX9_greatestDivisor 14 = .ok (.iload_n 3, 1) := by decide +kernel
theorem dX9_greatestDivisor_15 : decode cX9_greatestDivisor 15 = .ok (.ifCond .eq 19, 3) := by decide +kernel
theorem dX9_greatestDivisor_18 : decode cX9_greatestDivisor 18 = .ok (.iload_n 2, 1) := by decide +kernel
theorem dX9_greatestDivisor_19 : decode cX9_greatestDivisor 19 = .ok (.iload_n 3, 1) := by decide +kernel
theorem dX9_greatestDivisor_20 : decode cX9_greatestDivisor 20 = .ok (.irem, 1) := by decide +kernel
theorem dX9_greatestDivisor_21 : decode cX9_greatestDivisor 21 = .ok (.istore 5, 2) := by decide +kernel
theorem dX9_greatestDivisor_23 : decode cX9_greatestDivisor 23 = .ok (.iload_n 3, 1) := by decide +kernel
theorem dX9_greatestDivisor_24 : decode cX9_greatestDivisor 24 = .ok (.istore_n 2, 1) := by decide +kernel
theorem dX9_greatestDivisor_25 : decode cX9_greatestDivisor 25 = .ok (.iload 5, 2) := by decide +kernel
theorem dX9_greatestDivisor_27 : decode cX9_greatestDivisor 27 = .ok (.istore_n 3, 1) := by decide +kernel
theorem dX9_greatestDivisor_28 : decode cX9_greatestDivisor 28 = .ok (.iinc 4 1, 3) := by decide +kernel
theorem dX9_greatestDivisor_31 : decode cX9_greatestDivisor 31 = .ok (.goto (-24), 3) := by decide +kernel
theorem dX9_greatestDivisor_34 : decode cX9_greatestDivisor 34 = .ok (.iload_n 2, 1) := by decide +kernel
theorem dX9_greatestDivisor_35 : decode cX9_greatestDivisor 35 = .ok (.iconst 1, 1) := by decide +kernel
theorem dX9_greatestDivisor_36 : decode cX9_greatestDivisor 36 = .ok (.invokestatic 294, 3) := by decide +kernel
theorem dX9_greatestDivisor_39 : decode cX9_greatestDivisor 39 = .ok (.ireturn, 1) := by decide +kernel
theorem dX9_sheetAt_0 : decode cX9_sheetAt 0 = .ok (.iload_n 1, 1) := by decide +kernel
theorem dX9_sheetAt_1 : decode cX9_sheetAt 1 = .ok (.ifCond .lt 8, 3) := by decide +kernel
theorem dX9_sheetAt_4 : decode cX9_sheetAt 4 = .ok (.iload_n 1, 1) := by decide +kernel
theorem dX9_sheetAt_5 : decode cX9_sheetAt 5 = .ok (.iconst 3, 1) := by decide +kernel
theorem dX9_sheetAt_6 : decode cX9_sheetAt 6 = .ok (.if_icmp .lt 7, 3) := by decide +kernel
theorem dX9_sheetAt_9 : decode cX9_sheetAt 9 = .ok (.aconst_null, 1) := by decide +kernel
theorem dX9_sheetAt_10 : decode cX9_sheetAt 10 = .ok (.goto 9, 3) := by decide +kernel
theorem dX9_sheetAt_13 : decode cX9_sheetAt 13 = .ok (.aload_n 0, 1) := by decide +kernel
theorem dX9_sheetAt_14 : decode cX9_sheetAt 14 = .ok (.getfield 10, 3) := by decide +kernel
theorem dX9_sheetAt_17 : decode cX9_sheetAt 17 = .ok (.iload_n 1, 1) := by decide +kernel
theorem dX9_sheetAt_18 : decode cX9_sheetAt 18 = .ok (.aaload, 1) := by decide +kernel
theorem dX9_sheetAt_19 : decode cX9_sheetAt 19 = .ok (.areturn, 1) := by decide +kernel
theorem dX9_roadAt_0 : decode cX9_roadAt 0 = .ok (.iload_n 1, 1) := by decide +kernel
theorem dX9_roadAt_1 : decode cX9_roadAt 1 = .ok (.ifCond .lt 16, 3) := by decide +kernel
theorem dX9_roadAt_4 : decode cX9_roadAt 4 = .ok (.iload_n 1, 1) := by decide +kernel
theorem dX9_roadAt_5 : decode cX9_roadAt 5 = .ok (.aload_n 0, 1) := by decide +kernel
theorem dX9_roadAt_6 : decode cX9_roadAt 6 = .ok (.getfield 29, 3) := by decide +kernel
theorem dX9_roadAt_9 : decode cX9_roadAt 9 = .ok (.invokeinterface 109 1, 5) := by decide +kernel
theorem dX9_roadAt_14 : decode cX9_roadAt 14 = .ok (.if_icmp .lt 7, 3) := by decide +kernel
theorem dX9_roadAt_17 : decode cX9_roadAt 17 = .ok (.aconst_null, 1) := by decide +kernel
theorem dX9_roadAt_18 : decode cX9_roadAt 18 = .ok (.goto 16, 3) := by decide +kernel
theorem dX9_roadAt_21 : decode cX9_roadAt 21 = .ok (.aload_n 0, 1) := by decide +kernel
theorem dX9_roadAt_22 : decode cX9_roadAt 22 = .ok (.getfield 29, 3) := by decide +kernel
theorem dX9_roadAt_25 : decode cX9_roadAt 25 = .ok (.iload_n 1, 1) := by decide +kernel
theorem dX9_roadAt_26 : decode cX9_roadAt 26 = .ok (.invokeinterface 287 2, 5) := by decide +kernel
theorem dX9_roadAt_31 : decode cX9_roadAt 31 = .ok (.checkcast 115, 3) := by decide +kernel
theorem dX9_roadAt_34 : decode cX9_roadAt 34 = .ok (.areturn, 1) := by decide +kernel
theorem dX9_lineAt_0 : decode cX9_lineAt 0 = .ok (.iload_n 1, 1) := by decide +kernel
theorem dX9_lineAt_1 : decode cX9_lineAt 1 = .ok (.ifCond .lt 16, 3) := by decide +kernel
theorem dX9_lineAt_4 : decode cX9_lineAt 4 = .ok (.iload_n 1, 1) := by decide +kernel
theorem dX9_lineAt_5 : decode cX9_lineAt 5 = .ok (.aload_n 0, 1) := by decide +kernel
theorem dX9_lineAt_6 : decode cX9_lineAt 6 = .ok (.getfield 54, 3) := by decide +kernel
theorem dX9_lineAt_9 : decode cX9_lineAt 9 = .ok (.invokeinterface 109 1, 5) := by decide +kernel
theorem dX9_lineAt_14 : decode cX9_lineAt 14 = .ok (.if_icmp .lt 7, 3) := by decide +kernel
theorem dX9_lineAt_17 : decode cX9_lineAt 17 = .ok (.aconst_null, 1) := by decide +kernel
theorem dX9_lineAt_18 : decode cX9_lineAt 18 = .ok (.goto 16, 3) := by decide +kernel
theorem dX9_lineAt_21 : decode cX9_lineAt 21 = .ok (.aload_n 0, 1) := by decide +kernel
theorem dX9_lineAt_22 : decode cX9_lineAt 22 = .ok (.getfield 54, 3) := by decide +kernel
theorem dX9_lineAt_25 : decode cX9_lineAt 25 = .ok (.iload_n 1, 1) := by decide +kernel
theorem dX9_lineAt_26 : decode cX9_lineAt 26 = .ok (.invokeinterface 287 2, 5) := by decide +kernel
theorem dX9_lineAt_31 : decode cX9_lineAt 31 = .ok (.checkcast 220, 3) := by decide +kernel
theorem dX9_lineAt_34 : decode cX9_lineAt 34 = .ok (.areturn, 1) := by decide +kernel
theorem dX9_fitInHand_0 : decode cX9_fitInHand 0 = .ok (.aload_n 0, 1) := by decide +kernel
theorem dX9_fitInHand_1 : decode cX9_fitInHand 1 = .ok (.getfield 36, 3) := by decide +kernel
theorem dX9_fitInHand_4 : decode cX9_fitInHand 4 = .ok (.aload_n 0, 1) := by decide +kernel
theorem dX9_fitInHand_5 : decode cX9_fitInHand 5 = .ok (.getfield 16, 3) := by decide +kernel
theorem dX9_fitInHand_8 : decode cX9_fitInHand 8 = .ok (.aload_n 0, 1) := by decide +kernel
theorem dX9_fitInHand_9 : decode cX9_fitInHand 9 = .ok (.getfield 20, 3) := by decide +kernel
theorem dX9_fitInHand_12 : decode cX9_fitInHand 12 = .ok (.aload_n 0, 1) := by decide +kernel
theorem dX9_fitInHand_13 : decode cX9_fitInHand 13 = .ok (.getfield 23, 3) := by decide +kernel
theorem dX9_fitInHand_16 : decode cX9_fitInHand 16 = .ok (.invokevirtual 134, 3) := by decide +kernel
theorem dX9_fitInHand_19 : decode cX9_fitInHand 19 = .ok (.aload_n 0, 1) := by decide +kernel
theorem dX9_fitInHand_20 : decode cX9_fitInHand 20 = .ok (.getfield 36, 3) := by decide +kernel
theorem dX9_fitInHand_23 : decode cX9_fitInHand 23 = .ok (.aload_n 1, 1) := by decide +kernel
theorem dX9_fitInHand_24 : decode cX9_fitInHand 24 = .ok (.invokevirtual 299, 3) := by decide +kernel
theorem dX9_fitInHand_27 : decode cX9_fitInHand 27 = .ok (.ireturn, 1) := by decide +kernel
theorem dX9_lookAt_0 : decode cX9_lookAt 0 = .ok (.aload_n 0, 1) := by decide +kernel
theorem dX9_lookAt_1 : decode cX9_lookAt 1 = .ok (.getfield 36, 3) := by decide +kernel
theorem dX9_lookAt_4 : decode cX9_lookAt 4 = .ok (.aload_n 1, 1) := by decide +kernel
theorem dX9_lookAt_5 : decode cX9_lookAt 5 = .ok (.aload_n 0, 1) := by decide +kernel
theorem dX9_lookAt_6 : decode cX9_lookAt 6 = .ok (.getfield 20, 3) := by decide +kernel
theorem dX9_lookAt_9 : decode cX9_lookAt 9 = .ok (.aload_n 0, 1) := by decide +kernel
theorem dX9_lookAt_10 : decode cX9_lookAt 10 = .ok (.getfield 23, 3) := by decide +kernel
theorem dX9_lookAt_13 : decode cX9_lookAt 13 = .ok (.invokevirtual 134, 3) := by decide +kernel
theorem dX9_lookAt_16 : decode cX9_lookAt 16 = .ok (.aload_n 0, 1) := by decide +kernel
theorem dX9_lookAt_17 : decode cX9_lookAt 17 = .ok (.getfield 36, 3) := by decide +kernel
theorem dX9_lookAt_20 : decode cX9_lookAt 20 = .ok (.aload_n 0, 1) := by decide +kernel
theorem dX9_lookAt_21 : decode cX9_lookAt 21 = .ok (.getfield 29, 3) := by decide +kernel
theorem dX9_lookAt_24 : decode cX9_lookAt 24 = .ok (.invokevirtual 138, 3) := by decide +kernel
theorem dX9_lookAt_27 : decode cX9_lookAt 27 = .ok (.aload_n 0, 1) := by decide +kernel
theorem dX9_lookAt_28 : decode cX9_lookAt 28 = .ok (.getfield 36, 3) := by decide +kernel
theorem dX9_lookAt_31 : decode cX9_lookAt 31 = .ok (.aload_n 0, 1) := by decide +kernel
theorem dX9_lookAt_32 : decode cX9_lookAt 32 = .ok (.getfield 29, 3) := by decide +kernel
theorem dX9_lookAt_35 : decode cX9_lookAt 35 = .ok (.invokevirtual 302, 3) := by decide +kernel
theorem dX9_lookAt_38 : decode cX9_lookAt 38 = .ok (.return_, 1) := by decide +kernel
theorem dX9_holdingLines_0 : decode cX9_holdingLines 0 = .ok (.iconst 0, 1) := by decide +kernel
theorem dX9_holdingLines_1 : decode cX9_holdingLines 1 = .ok (.istore_n 1, 1) := by decide +kernel
theorem dX9_holdingLines_2 : decode cX9_holdingLines 2 = .ok (.iconst 0, 1) := by decide +kernel
theorem dX9_holdingLines_3 : decode cX9_holdingLines 3 = .ok (.istore_n 2, 1) := by decide +kernel
theorem dX9_holdingLines_4 : decode cX9_holdingLines 4 = .ok (.iload_n 2, 1) := by decide +kernel
theorem dX9_holdingLines_5 : decode cX9_holdingLines 5 = .ok (.aload_n 0, 1) := by decide +kernel
theorem dX9_holdingLines_6 : decode cX9_holdingLines 6 = .ok (.getfield 54, 3) := by decide +kernel
theorem dX9_holdingLines_9 : decode cX9_holdingLines 9 = .ok (.invokeinterface 109 1, 5) := by decide +kernel
theorem dX9_holdingLines_14 : decode cX9_holdingLines 14 = .ok (.if_icmp .ge 45, 3) := by decide +kernel
theorem dX9_holdingLines_17 : decode cX9_holdingLines 17 = .ok (.aload_n 0, 1) := by decide +kernel
theorem dX9_holdingLines_18 : decode cX9_holdingLines 18 = .ok (.getfield 50, 3) := by decide +kernel
theorem dX9_holdingLines_21 : decode cX9_holdingLines 21 = .ok (.aload_n 0, 1) := by decide +kernel
theorem dX9_holdingLines_22 : decode cX9_holdingLines 22 = .ok (.getfield 54, 3) := by decide +kernel
theorem dX9_holdingLines_25 : decode cX9_holdingLines 25 = .ok (.iload_n 2, 1) := by decide +kernel
theorem dX9_holdingLines_26 : decode cX9_holdingLines 26 = .ok (.invokeinterface 287 2, 5) := by decide +kernel
theorem dX9_holdingLines_31 : decode cX9_holdingLines 31 = .ok (.checkcast 220, 3) := by decide +kernel
theorem dX9_holdingLines_34 : decode cX9_holdingLines 34 = .ok (.getfield 232, 3) := by decide +kernel
theorem dX9_holdingLines_37 : decode cX9_holdingLines 37 = .ok (.aload_n 0, 1) := by decide +kernel
theorem dX9_holdingLines_38 : decode cX9_holdingLines 38 = .ok (.getfield 36, 3) := by decide +kernel
theorem dX9_holdingLines_41 : decode cX9_holdingLines 41 = .ok (.invokevirtual 213, 3) := by decide +kernel
theorem dX9_holdingLines_44 : decode cX9_holdingLines 44 = .ok (.ifCond .eq 9, 3) := by decide +kernel
theorem dX9_holdingLines_47 : decode cX9_holdingLines 47 = .ok (.iload_n 1, 1) := by decide +kernel
theorem dX9_holdingLines_48 : decode cX9_holdingLines 48 = .ok (.iconst 1, 1) := by decide +kernel
theorem dX9_holdingLines_49 : decode cX9_holdingLines 49 = .ok (.iload_n 2, 1) := by decide +kernel
theorem dX9_holdingLines_50 : decode cX9_holdingLines 50 = .ok (.ishl, 1) := by decide +kernel
theorem dX9_holdingLines_51 : decode cX9_holdingLines 51 = .ok (.ior, 1) := by decide +kernel
theorem dX9_holdingLines_52 : decode cX9_holdingLines 52 = .ok (.istore_n 1, 1) := by decide +kernel
theorem dX9_holdingLines_53 : decode cX9_holdingLines 53 = .ok (.iinc 2 1, 3) := by decide +kernel
theorem dX9_holdingLines_56 : decode cX9_holdingLines 56 = .ok (.goto (-52), 3) := by decide +kernel
theorem dX9_holdingLines_59 : decode cX9_holdingLines 59 = .ok (.iload_n 1, 1) := by decide +kernel
theorem dX9_holdingLines_60 : decode cX9_holdingLines 60 = .ok (.ireturn, 1) := by decide +kernel
theorem dX9_loseCrossing_0 : decode cX9_loseCrossing 0 = .ok (.aload_n 0, 1) := by decide +kernel
theorem dX9_loseCrossing_1 : decode cX9_loseCrossing 1 = .ok (.dup, 1) := by decide +kernel
theorem dX9_loseCrossing_2 : decode cX9_loseCrossing 2 = .ok (.getfield 253, 3) := by decide +kernel
theorem dX9_loseCrossing_5 : decode cX9_loseCrossing 5 = .ok (.iconst 1, 1) := by decide +kernel
theorem dX9_loseCrossing_6 : decode cX9_loseCrossing 6 = .ok (.isub, 1) := by decide +kernel
theorem dX9_loseCrossing_7 : decode cX9_loseCrossing 7 = .ok (.putfield 253, 3) := by decide +kernel
theorem dX9_loseCrossing_10 : decode cX9_loseCrossing 10 = .ok (.aload_n 0, 1) := by decide +kernel
theorem dX9_loseCrossing_11 : decode cX9_loseCrossing 11 = .ok (.dup, 1) := by decide +kernel
theorem dX9_loseCrossing_12 : decode cX9_loseCrossing 12 = .ok (.getfield 265, 3) := by decide +kernel
theorem dX9_loseCrossing_15 : decode cX9_loseCrossing 15 = .ok (.iconst 1, 1) := by decide +kernel
theorem dX9_loseCrossing_16 : decode cX9_loseCrossing 16 = .ok (.iadd, 1) := by decide +kernel
theorem dX9_loseCrossing_17 : decode cX9_loseCrossing 17 = .ok (.putfield 265, 3) := by decide +kernel
theorem dX9_loseCrossing_20 : decode cX9_loseCrossing 20 = .ok (.iconst (-1), 1) := by decide +kernel
theorem dX9_loseCrossing_21 : decode cX9_loseCrossing 21 = .ok (.ireturn, 1) := by decide +kernel
theorem dX9_judgeCrossing_0 : decode cX9_judgeCrossing 0 = .ok (.aload_n 0, 1) := by decide +kernel
theorem dX9_judgeCrossing_1 : decode cX9_judgeCrossing 1 = .ok (.aload_n 0, 1) := by decide +kernel
theorem dX9_judgeCrossing_2 : decode cX9_judgeCrossing 2 = .ok (.getfield 16, 3) := by decide +kernel
theorem dX9_judgeCrossing_5 : decode cX9_judgeCrossing 5 = .ok (.invokevirtual 178, 3) := by decide +kernel
theorem dX9_judgeCrossing_8 : decode cX9_judgeCrossing 8 = .ok (.aload_n 0, 1) := by decide +kernel
theorem dX9_judgeCrossing_9 : decode cX9_judgeCrossing 9 = .ok (.aload_n 0, 1) := by decide +kernel
theorem dX9_judgeCrossing_10 : decode cX9_judgeCrossing 10 = .ok (.invokevirtual 284, 3) := by decide +kernel
theorem dX9_judgeCrossing_13 : decode cX9_judgeCrossing 13 = .ok (.invokevirtual 305, 3) := by decide +kernel
theorem dX9_judgeCrossing_16 : decode cX9_judgeCrossing 16 = .ok (.istore_n 2, 1) := by decide +kernel
theorem dX9_judgeCrossing_17 : decode cX9_judgeCrossing 17 = .ok (.iload_n 2, 1) := by decide +kernel
theorem dX9_judgeCrossing_18 : decode cX9_judgeCrossing 18 = .ok (.aload_n 0, 1) := by decide +kernel
theorem dX9_judgeCrossing_19 : decode cX9_judgeCrossing 19 = .ok (.invokevirtual 308, 3) := by decide +kernel
theorem dX9_judgeCrossing_22 : decode cX9_judgeCrossing 22 = .ok (.iand, 1) := by decide +kernel
theorem dX9_judgeCrossing_23 : decode cX9_judgeCrossing 23 = .ok (.istore_n 3, 1) := by decide +kernel
theorem dX9_judgeCrossing_24 : decode cX9_judgeCrossing 24 = .ok (.iload_n 2, 1) := by decide +kernel
theorem dX9_judgeCrossing_25 : decode cX9_judgeCrossing 25 = .ok (.iload_n 3, 1) := by decide +kernel
theorem dX9_judgeCrossing_26 : decode cX9_judgeCrossing 26 = .ok (.iconst (-1), 1) := by decide +kernel
theorem dX9_judgeCrossing_27 : decode cX9_judgeCrossing 27 = .ok (.ixor, 1) := by decide +kernel
theorem dX9_judgeCrossing_28 : decode cX9_judgeCrossing 28 = .ok (.iand, 1) := by decide +kernel
theorem dX9_judgeCrossing_29 : decode cX9_judgeCrossing 29 = .ok (.istore 4, 2) := by decide +kernel
theorem dX9_judgeCrossing_31 : decode cX9_judgeCrossing 31 = .ok (.iload 4, 2) := by decide +kernel
theorem dX9_judgeCrossing_33 : decode cX9_judgeCrossing 33 = .ok (.ifCond .ne 5, 3) := by decide +kernel
theorem dX9_judgeCrossing_36 : decode cX9_judgeCrossing 36 = .ok (.iconst 0, 1) := by decide +kernel
theorem dX9_judgeCrossing_37 : decode cX9_judgeCrossing 37 = .ok (.ireturn, 1) := by decide +kernel
theorem dX9_judgeCrossing_38 : decode cX9_judgeCrossing 38 = .ok (.iload_n 3, 1) := by decide +kernel
theorem dX9_judgeCrossing_39 : decode cX9_judgeCrossing 39 = .ok (.ifCond .eq 15, 3) := by decide +kernel
theorem dX9_judgeCrossing_42 : decode cX9_judgeCrossing 42 = .ok (.aload_n 0, 1) := by decide +kernel
theorem dX9_judgeCrossing_43 : decode cX9_judgeCrossing 43 = .ok (.dup, 1) := by decide +kernel
theorem dX9_judgeCrossing_44 : decode cX9_judgeCrossing 44 = .ok (.getfield 269, 3) := by decide +kernel
theorem dX9_judgeCrossing_47 : decode cX9_judgeCrossing 47 = .ok (.iconst 1, 1) := by decide +kernel
theorem dX9_judgeCrossing_48 : decode cX9_judgeCrossing 48 = .ok (.iadd, 1) := by decide +kernel
theorem dX9_judgeCrossing_49 : decode cX9_judgeCrossing 49 = .ok (.putfield 269, 3) := by decide +kernel
theorem dX9_judgeCrossing_52 : decode cX9_judgeCrossing 52 = .ok (.iconst 0, 1) := by decide +kernel
theorem dX9_judgeCrossing_53 : decode cX9_judgeCrossing 53 = .ok (.ireturn, 1) := by decide +kernel
theorem dX9_judgeCrossing_54 : decode cX9_judgeCrossing 54 = .ok (.aload_n 0, 1) := by decide +kernel
theorem dX9_judgeCrossing_55 : decode cX9_judgeCrossing 55 = .ok (.iload 4, 2) := by decide +kernel
theorem dX9_judgeCrossing_57 : decode cX9_judgeCrossing 57 = .ok (.invokevirtual 311, 3) := by decide +kernel
theorem dX9_judgeCrossing_60 : decode cX9_judgeCrossing 60 = .ok (.aload_n 0, 1) := by decide +kernel
theorem dX9_judgeCrossing_61 : decode cX9_judgeCrossing 61 = .ok (.getfield 60, 3) := by decide +kernel
theorem dX9_judgeCrossing_64 : decode cX9_judgeCrossing 64 = .ok (.iload_n 1, 1) := by decide +kernel
theorem dX9_judgeCrossing_65 : decode cX9_judgeCrossing 65 = .ok (.iload 4, 2) := by decide +kernel
theorem dX9_judgeCrossing_67 : decode cX9_judgeCrossing 67 = .ok (.aload_n 0, 1) := by decide +kernel
theorem dX9_judgeCrossing_68 : decode cX9_judgeCrossing 68 = .ok (.getfield 16, 3) := by decide +kernel
theorem dX9_judgeCrossing_71 : decode cX9_judgeCrossing 71 = .ok (.invokevirtual 314, 3) := by decide +kernel
theorem dX9_judgeCrossing_74 : decode cX9_judgeCrossing 74 = .ok (.aload_n 0, 1) := by decide +kernel
theorem dX9_judgeCrossing_75 : decode cX9_judgeCrossing 75 = .ok (.aload_n 0, 1) := by decide +kernel
theorem dX9_judgeCrossing_76 : decode cX9_judgeCrossing 76 = .ok (.getfield 262, 3) := by decide +kernel
theorem dX9_judgeCrossing_79 : decode cX9_judgeCrossing 79 = .ok (.putfield 253, 3) := by decide +kernel
theorem dX9_judgeCrossing_82 : decode cX9_judgeCrossing 82 = .ok (.iload 4, 2) := by decide +kernel
theorem dX9_judgeCrossing_84 : decode cX9_judgeCrossing 84 = .ok (.ireturn, 1) := by decide +kernel
theorem dX9_passLines_0 : decode cX9_passLines 0 = .ok (.iconst 0, 1) := by decide +kernel
theorem dX9_passLines_1 : decode cX9_passLines 1 = .ok (.istore_n 2, 1) := by decide +kernel
theorem dX9_passLines_2 : decode cX9_passLines 2 = .ok (.iconst 0, 1) := by decide +kernel
theorem dX9_passLines_3 : decode cX9_passLines 3 = .ok (.istore_n 3, 1) := by decide +kernel
theorem dX9_passLines_4 : decode cX9_passLines 4 = .ok (.iload_n 3, 1) := by decide +kernel
theorem dX9_passLines_5 : decode cX9_passLines 5 = .ok (.aload_n 0, 1) := by decide +kernel
theorem dX9_passLines_6 : decode cX9_passLines 6 = .ok (.getfield 54, 3) := by decide +kernel
theorem dX9_passLines_9 : decode cX9_passLines 9 = .ok (.invokeinterface 109 1, 5) := by decide +kernel
theorem dX9_passLines_14 : decode cX9_passLines 14 = .ok (.if_icmp .ge 43, 3) := by decide +kernel
theorem dX9_passLines_17 : decode cX9_passLines 17 = .ok (.iload_n 1, 1) := by decide +kernel
theorem dX9_passLines_18 : decode cX9_passLines 18 = .ok (.iload_n 3, 1) := by decide +kernel
theorem dX9_passLines_19 : decode cX9_passLines 19 = .ok (.ishr, 1) := by decide +kernel
theorem dX9_passLines_20 : decode cX9_passLines 20 = .ok (.iconst 1, 1) := by decide +kernel
theorem dX9_passLines_21 : decode cX9_passLines 21 = .ok (.iand, 1) := by decide +kernel
theorem dX9_passLines_22 : decode cX9_passLines 22 = .ok (.iconst 1, 1) := by decide +kernel
theorem dX9_passLines_23 : decode cX9_passLines 23 = .ok (.if_icmp .ne 28, 3) := by decide +kernel
theorem dX9_passLines_26 : decode cX9_passLines 26 = .ok (.aload_n 0, 1) := by decide +kernel
theorem dX9_passLines_27 : decode cX9_passLines 27 = .ok (.getfield 54, 3) := by decide +kernel
theorem dX9_passLines_30 : decode cX9_passLines 30 = .ok (.iload_n 3, 1) := by decide +kernel
theorem dX9_passLines_31 : decode cX9_passLines 31 = .ok (.invokeinterface 287 2, 5) := by decide +kernel
theorem dX9_passLines_36 : decode cX9_passLines 36 = .ok (.checkcast 220, 3) := by decide +kernel
theorem dX9_passLines_39 : decode cX9_passLines 39 = .ok (.invokevirtual 318, 3) := by decide +kernel
theorem dX9_passLines_42 : decode cX9_passLines 42 = .ok (.ifCond .eq 9, 3) := by decide +kernel
theorem dX9_passLines_45 : decode cX9_passLines 45 = .ok (.iload_n 2, 1) := by decide +kernel
theorem dX9_passLines_46 : decode cX9_passLines 46 = .ok (.iconst 1, 1) := by decide +kernel
theorem dX9_passLines_47 : decode cX9_passLines 47 = .ok (.iload_n 3, 1) := by decide +kernel
theorem dX9_passLines_48 : decode cX9_passLines 48 = .ok (.ishl, 1) := by decide +kernel
theorem dX9_passLines_49 : decode cX9_passLines 49 = .ok (.ior, 1) := by decide +kernel
theorem dX9_passLines_50 : decode cX9_passLines 50 = .ok (.istore_n 2, 1) := by decide +kernel
theorem dX9_passLines_51 : decode cX9_passLines 51 = .ok (.iinc 3 1, 3) := by decide +kernel
theorem dX9_passLines_54 : decode cX9_passLines 54 = .ok (.goto (-50), 3) := by decide +kernel
theorem dX9_passLines_57 : decode cX9_passLines 57 = .ok (.iload_n 2, 1) := by decide +kernel
theorem dX9_passLines_58 : decode cX9_passLines 58 = .ok (.ireturn, 1) := by decide +kernel
theorem dX9_barLines_0 : decode cX9_barLines 0 = .ok (.iconst 0, 1) := by decide +kernel
theorem dX9_barLines_1 : decode cX9_barLines 1 = .ok (.istore_n 1, 1) := by decide +kernel
theorem dX9_barLines_2 : decode cX9_barLines 2 = .ok (.iconst 0, 1) := by decide +kernel
theorem dX9_barLines_3 : decode cX9_barLines 3 = .ok (.istore_n 2, 1) := by decide +kernel
theorem dX9_barLines_4 : decode cX9_barLines 4 = .ok (.iload_n 2, 1) := by decide +kernel
theorem dX9_barLines_5 : decode cX9_barLines 5 = .ok (.aload_n 0, 1) := by decide +kernel
theorem dX9_barLines_6 : decode cX9_barLines 6 = .ok (.getfield 54, 3) := by decide +kernel
theorem dX9_barLines_9 : decode cX9_barLines 9 = .ok (.invokeinterface 109 1, 5) := by decide +kernel
theorem dX9_barLines_14 : decode cX9_barLines 14 = .ok (.if_icmp .ge 34, 3) := by decide +kernel
theorem dX9_barLines_17 : decode cX9_barLines 17 = .ok (.aload_n 0, 1) := by decide +kernel
theorem dX9_barLines_18 : decode cX9_barLines 18 = .ok (.getfield 54, 3) := by decide +kernel
theorem dX9_barLines_21 : decode cX9_barLines 21 = .ok (.iload_n 2, 1) := by decide +kernel
theorem dX9_barLines_22 : decode cX9_barLines 22 = .ok (.invokeinterface 287 2, 5) := by decide +kernel
theorem dX9_barLines_27 : decode cX9_barLines 27 = .ok (.checkcast 220, 3) := by decide +kernel
theorem dX9_barLines_30 : decode cX9_barLines 30 = .ok (.getfield 235, 3) := by decide +kernel
theorem dX9_barLines_33 : decode cX9_barLines 33 = .ok (.ifCond .eq 9, 3) := by decide +kernel
theorem dX9_barLines_36 : decode cX9_barLines 36 = .ok (.iload_n 1, 1) := by decide +kernel
theorem dX9_barLines_37 : decode cX9_barLines 37 = .ok (.iconst 1, 1) := by decide +kernel
theorem dX9_barLines_38 : decode cX9_barLines 38 = .ok (.iload_n 2, 1) := by decide +kernel
theorem dX9_barLines_39 : decode cX9_barLines 39 = .ok (.ishl, 1) := by decide +kernel
theorem dX9_barLines_40 : decode cX9_barLines 40 = .ok (.ior, 1) := by decide +kernel
theorem dX9_barLines_41 : decode cX9_barLines 41 = .ok (.istore_n 1, 1) := by decide +kernel
theorem dX9_barLines_42 : decode cX9_barLines 42 = .ok (.iinc 2 1, 3) := by decide +kernel
theorem dX9_barLines_45 : decode cX9_barLines 45 = .ok (.goto (-41), 3) := by decide +kernel
theorem dX9_barLines_48 : decode cX9_barLines 48 = .ok (.iload_n 1, 1) := by decide +kernel
theorem dX9_barLines_49 : decode cX9_barLines 49 = .ok (.ireturn, 1) := by decide +kernel
theorem dX9_creditLines_0 : decode cX9_creditLines 0 = .ok (.iload_n 1, 1) := by decide +kernel
theorem dX9_creditLines_1 : decode cX9_creditLines 1 = .ok (.invokestatic 92, 3) := by decide +kernel
theorem dX9_creditLines_4 : decode cX9_creditLines 4 = .ok (.iconst 1, 1) := by decide +kernel
theorem dX9_creditLines_5 : decode cX9_creditLines 5 = .ok (.if_icmp .ne 7, 3) := by decide +kernel
theorem dX9_creditLines_8 : decode cX9_creditLines 8 = .ok (.iconst 1, 1) := by decide +kernel
theorem dX9_creditLines_9 : decode cX9_creditLines 9 = .ok (.goto 4, 3) := by decide +kernel
theorem dX9_creditLines_12 : decode cX9_creditLines 12 = .ok (.iconst 0, 1) := by decide +kernel
theorem dX9_creditLines_13 : decode cX9_creditLines 13 = .ok (.istore_n 2, 1) := by decide +kernel
theorem dX9_creditLines_14 : decode cX9_creditLines 14 = .ok (.iconst 0, 1) := by decide +kernel
theorem dX9_creditLines_15 : decode cX9_creditLines 15 = .ok (.istore_n 3, 1) := by decide +kernel
theorem dX9_creditLines_16 : decode cX9_creditLines 16 = .ok (.iload_n 3, 1) := by decide +kernel
theorem dX9_creditLines_17 : decode cX9_creditLines 17 = .ok (.aload_n 0, 1) := by decide +kernel
theorem dX9_creditLines_18 : decode cX9_creditLines 18 = .ok (.getfield 54, 3) := by decide +kernel
theorem dX9_creditLines_21 : decode cX9_creditLines 21 = .ok (.invokeinterface 109 1, 5) := by decide +kernel
theorem dX9_creditLines_26 : decode cX9_creditLines 26 = .ok (.if_icmp .ge 35, 3) := by decide +kernel
theorem dX9_creditLines_29 : decode cX9_creditLines 29 = .ok (.iload_n 1, 1) := by decide +kernel
theorem dX9_creditLines_30 : decode cX9_creditLines 30 = .ok (.iload_n 3, 1) := by decide +kernel
theorem dX9_creditLines_31 : decode cX9_creditLines 31 = .ok (.ishr, 1) := by decide +kernel
theorem dX9_creditLines_32 : decode cX9_creditLines 32 = .ok (.iconst 1, 1) := by decide +kernel
theorem dX9_creditLines_33 : decode cX9_creditLines 33 = .ok (.iand, 1) := by decide +kernel
theorem dX9_creditLines_34 : decode cX9_creditLines 34 = .ok (.iconst 1, 1) := by decide +kernel
theorem dX9_creditLines_35 : decode cX9_creditLines 35 = .ok (.if_icmp .ne 20, 3) := by decide +kernel
theorem dX9_creditLines_38 : decode cX9_creditLines 38 = .ok (.aload_n 0, 1) := by decide +kernel
theorem dX9_creditLines_39 : decode cX9_creditLines 39 = .ok (.getfield 54, 3) := by decide +kernel
theorem dX9_creditLines_42 : decode cX9_creditLines 42 = .ok (.iload_n 3, 1) := by decide +kernel
theorem dX9_creditLines_43 : decode cX9_creditLines 43 = .ok (.invokeinterface 287 2, 5) := by decide +kernel
theorem dX9_creditLines_48 : decode cX9_creditLines 48 = .ok (.checkcast 220, 3) := by decide +kernel
theorem dX9_creditLines_51 : decode cX9_creditLines 51 = .ok (.iload_n 2, 1) := by decide +kernel
theorem dX9_creditLines_52 : decode cX9_creditLines 52 = .ok (.invokevirtual 322, 3) := by decide +kernel
theorem dX9_creditLines_55 : decode cX9_creditLines 55 = .ok (.iinc 3 1, 3) := by decide +kernel
theorem dX9_creditLines_58 : decode cX9_creditLines 58 = .ok (.goto (-42), 3) := by decide +kernel
theorem dX9_creditLines_61 : decode cX9_creditLines 61 = .ok (.return_, 1) := by decide +kernel
