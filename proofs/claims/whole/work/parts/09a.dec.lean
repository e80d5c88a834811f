theorem dX0_init_0 : decode cX0_init 0 = .ok (.aload_n 0, 1) := by decide +kernel
theorem dX0_init_1 : decode cX0_init 1 = .ok (.invokespecial 3, 3) := by decide +kernel
theorem dX0_init_4 : decode cX0_init 4 = .ok (.aload_n 0, 1) := by decide +kernel
theorem dX0_init_5 : decode cX0_init 5 = .ok (.iconst 5, 1) := by decide +kernel
theorem dX0_init_6 : decode cX0_init 6 = .ok (.newarray .int, 2) := by decide +kernel
theorem dX0_init_8 : decode cX0_init 8 = .ok (.putfield 9, 3) := by decide +kernel
theorem dX0_init_11 : decode cX0_init 11 = .ok (.aload_n 0, 1) := by decide +kernel
theorem dX0_init_12 : decode cX0_init 12 = .ok (.iconst 5, 1) := by decide +kernel
theorem dX0_init_13 : decode cX0_init 13 = .ok (.newarray .int, 2) := by decide +kernel
theorem dX0_init_15 : decode cX0_init 15 = .ok (.putfield 15, 3) := by decide +kernel
theorem dX0_init_18 : decode cX0_init 18 = .ok (.aload_n 0, 1) := by decide +kernel
theorem dX0_init_19 : decode cX0_init 19 = .ok (.iconst 5, 1) := by decide +kernel
theorem dX0_init_20 : decode cX0_init 20 = .ok (.newarray .int, 2) := by decide +kernel
theorem dX0_init_22 : decode cX0_init 22 = .ok (.putfield 18, 3) := by decide +kernel
theorem dX0_init_25 : decode cX0_init 25 = .ok (.return_, 1) := by decide +kernel
theorem dX0_along_0 : decode cX0_along 0 = .ok (.aload_n 0, 1) := by decide +kernel
theorem dX0_along_1 : decode cX0_along 1 = .ok (.iconst 0, 1) := by decide +kernel
theorem dX0_along_2 : decode cX0_along 2 = .ok (.putfield 21, 3) := by decide +kernel
theorem dX0_along_5 : decode cX0_along 5 = .ok (.aload_n 0, 1) := by decide +kernel
theorem dX0_along_6 : decode cX0_along 6 = .ok (.iconst 0, 1) := by decide +kernel
theorem dX0_along_7 : decode cX0_along 7 = .ok (.putfield 25, 3) := by decide +kernel
theorem dX0_along_10 : decode cX0_along 10 = .ok (.iconst 0, 1) := by decide +kernel
theorem dX0_along_11 : decode cX0_along 11 = .ok (.istore_n 3, 1) := by decide +kernel
theorem dX0_along_12 : decode cX0_along 12 = .ok (.iconst 0, 1) := by decide +kernel
theorem dX0_along_13 : decode cX0_along 13 = .ok (.istore 4, 2) := by decide +kernel
theorem dX0_along_15 : decode cX0_along 15 = .ok (.iload 4, 2) := by decide +kernel
theorem dX0_along_17 : decode cX0_along 17 = .ok (.iconst 5, 1) := by decide +kernel
theorem dX0_along_18 : decode cX0_along 18 = .ok (.if_icmp .ge 70, 3) := by decide +kernel
theorem dX0_along_21 : decode cX0_along 21 = .ok (.aload_n 0, 1) := by decide +kernel
theorem dX0_along_22 : decode cX0_along 22 = .ok (.getfield 9, 3) := by decide +kernel
theorem dX0_along_25 : decode cX0_along 25 = .ok (.iload 4, 2) := by decide +kernel
theorem dX0_along_27 : decode cX0_along 27 = .ok (.aload_n 1, 1) := by decide +kernel
theorem dX0_along_28 : decode cX0_along 28 = .ok (.iload 4, 2) := by decide +kernel
theorem dX0_along_30 : decode cX0_along 30 = .ok (.aload_n 2, 1) := by decide +kernel
theorem dX0_along_31 : decode cX0_along 31 = .ok (.invokevirtual 28, 3) := by decide +kernel
theorem dX0_along_34 : decode cX0_along 34 = .ok (.iastore, 1) := by decide +kernel
theorem dX0_along_35 : decode cX0_along 35 = .ok (.aload_n 0, 1) := by decide +kernel
theorem dX0_along_36 : decode cX0_along 36 = .ok (.getfield 15, 3) := by decide +kernel
theorem dX0_along_39 : decode cX0_along 39 = .ok (.iload 4, 2) := by decide +kernel
theorem dX0_along_41 : decode cX0_along 41 = .ok (.iconst (-1), 1) := by decide +kernel
theorem dX0_along_42 : decode cX0_along 42 = .ok (.iastore, 1) := by decide +kernel
theorem dX0_along_43 : decode cX0_along 43 = .ok (.aload_n 0, 1) := by decide +kernel
theorem dX0_along_44 : decode cX0_along 44 = .ok (.getfield 9, 3) := by decide +kernel
theorem dX0_along_47 : decode cX0_along 47 = .ok (.iload 4, 2) := by decide +kernel
theorem dX0_along_49 : decode cX0_along 49 = .ok (.iaload, 1) := by decide +kernel
theorem dX0_along_50 : decode cX0_along 50 = .ok (.ifCond .eq 32, 3) := by decide +kernel
theorem dX0_along_53 : decode cX0_along 53 = .ok (.aload_n 0, 1) := by decide +kernel
theorem dX0_along_54 : decode cX0_along 54 = .ok (.dup, 1) := by decide +kernel
theorem dX0_along_55 : decode cX0_along 55 = .ok (.getfield 21, 3) := by decide +kernel
theorem dX0_along_58 : decode cX0_along 58 = .ok (.iconst 1, 1) := by decide +kernel
theorem dX0_along_59 : decode cX0_along 59 = .ok (.iadd, 1) := by decide +kernel
theorem dX0_along_60 : decode cX0_along 60 = .ok (.putfield 21, 3) := by decide +kernel
theorem dX0_along_63 : decode cX0_along 63 = .ok (.aload_n 0, 1) := by decide +kernel
theorem dX0_along_64 : decode cX0_along 64 = .ok (.dup, 1) := by decide +kernel
theorem dX0_along_65 : decode cX0_along 65 = .ok (.getfield 25, 3) := by decide +kernel
theorem dX0_along_68 : decode cX0_along 68 = .ok (.iload 4, 2) := by decide +kernel
theorem dX0_along_70 : decode cX0_along 70 = .ok (.iadd, 1) := by decide +kernel
theorem dX0_along_71 : decode cX0_along 71 = .ok (.putfield 25, 3) := by decide +kernel
theorem dX0_along_74 : decode cX0_along 74 = .ok (.iload_n 3, 1) := by decide +kernel
theorem dX0_along_75 : decode cX0_along 75 = .ok (.iload 4, 2) := by decide +kernel
theorem dX0_along_77 : decode cX0_along 77 = .ok (.iload 4, 2) := by decide +kernel
theorem dX0_along_79 : decode cX0_along 79 = .ok (.imul, 1) := by decide +kernel
theorem dX0_along_80 : decode cX0_along 80 = .ok (.iadd, 1) := by decide +kernel
theorem dX0_along_81 : decode cX0_along 81 = .ok (.istore_n 3, 1) := by decide +kernel
theorem dX0_along_82 : decode cX0_along 82 = .ok (.iinc 4 1, 3) := by decide +kernel
theorem dX0_along_85 : decode cX0_along 85 = .ok (.goto (-70), 3) := by decide +kernel
theorem dX0_along_88 : decode cX0_along 88 = .ok (.aload_n 0, 1) := by decide +kernel
theorem dX0_along_89 : decode cX0_along 89 = .ok (.aload_n 0, 1) := by decide +kernel
theorem dX0_along_90 : decode cX0_along 90 = .ok (.getfield 21, 3) := by decide +kernel
theorem dX0_along_93 : decode cX0_along 93 = .ok (.iload_n 3, 1) := by decide +kernel
theorem dX0_along_94 : decode cX0_along 94 = .ok (.imul, 1) := by decide +kernel
theorem dX0_along_95 : decode cX0_along 95 = .ok (.aload_n 0, 1) := by decide +kernel
theorem dX0_along_96 : decode cX0_along 96 = .ok (.getfield 25, 3) := by decide +kernel
theorem dX0_along_99 : decode cX0_along 99 = .ok (.aload_n 0, 1) := by decide +kernel
theorem dX0_along_100 : decode cX0_along 100 = .ok (.getfield 25, 3) := by decide +kernel
theorem dX0_along_103 : decode cX0_along 103 = .ok (.imul, 1) := by decide +kernel
theorem dX0_along_104 : decode cX0_along 104 = .ok (.isub, 1) := by decide +kernel
theorem dX0_along_105 : decode cX0_along 105 = .ok (.putfield 34, 3) := by decide +kernel
theorem dX0_along_108 : decode cX0_along 108 = .ok (.aload_n 0, 1) := by decide +kernel
theorem dX0_along_109 : decode cX0_along 109 = .ok (.ldc 37, 2) := by decide +kernel
theorem dX0_along_111 : decode cX0_along 111 = .ok (.putfield 38, 3) := by decide +kernel
theorem dX0_along_114 : decode cX0_along 114 = .ok (.aload_n 0, 1) := by decide +kernel
theorem dX0_along_115 : decode cX0_along 115 = .ok (.iconst 0, 1) := by decide +kernel
theorem dX0_along_116 : decode cX0_along 116 = .ok (.iconst 0, 1) := by decide +kernel
theorem dX0_along_117 : decode cX0_along 117 = .ok (.iconst 0, 1) := by decide +kernel
theorem dX0_along_118 : decode cX0_along 118 = .ok (.iconst 0, 1) := by decide +kernel
theorem dX0_along_119 : decode cX0_along 119 = .ok (.invokevirtual 41, 3) := by decide +kernel
theorem dX0_along_122 : decode cX0_along 122 = .ok (.return_, 1) := by decide +kernel
theorem dX0_tryCells_0 : decode cX0_tryCells 0 = .ok (.iload_n 1, 1) := by decide +kernel
theorem dX0_tryCells_1 : decode cX0_tryCells 1 = .ok (.ifCond .lt 8, 3) := by decide +kernel
theorem dX0_tryCells_4 : decode cX0_tryCells 4 = .ok (.iload_n 1, 1) := by decide +kernel
theorem dX0_tryCells_5 : decode cX0_tryCells 5 = .ok (.iconst 5, 1) := by decide +kernel
theorem dX0_tryCells_6 : decode cX0_tryCells 6 = .ok (.if_icmp .lt 12, 3) := by decide +kernel
theorem dX0_tryCells_9 : decode cX0_tryCells 9 = .ok (.aload_n 0, 1) := by decide +kernel
theorem dX0_tryCells_10 : decode cX0_tryCells 10 = .ok (.iload_n 2, 1) := by decide +kernel
theorem dX0_tryCells_11 : decode cX0_tryCells 11 = .ok (.iload_n 3, 1) := by decide +kernel
theorem dX0_tryCells_12 : decode cX0_tryCells 12 = .ok (.iload 4, 2) := by decide +kernel
theorem dX0_tryCells_14 : decode cX0_tryCells 14 = .ok (.invokevirtual 45, 3) := by decide +kernel
theorem dX0_tryCells_17 : decode cX0_tryCells 17 = .ok (.return_, 1) := by decide +kernel
theorem dX0_tryCells_18 : decode cX0_tryCells 18 = .ok (.aload_n 0, 1) := by decide +kernel
theorem dX0_tryCells_19 : decode cX0_tryCells 19 = .ok (.getfield 9, 3) := by decide +kernel
theorem dX0_tryCells_22 : decode cX0_tryCells 22 = .ok (.iload_n 1, 1) := by decide +kernel
theorem dX0_tryCells_23 : decode cX0_tryCells 23 = .ok (.iaload, 1) := by decide +kernel
theorem dX0_tryCells_24 : decode cX0_tryCells 24 = .ok (.ifCond .ne 15, 3) := by decide +kernel
theorem dX0_tryCells_27 : decode cX0_tryCells 27 = .ok (.aload_n 0, 1) := by decide +kernel
theorem dX0_tryCells_28 : decode cX0_tryCells 28 = .ok (.iload_n 1, 1) := by decide +kernel
theorem dX0_tryCells_29 : decode cX0_tryCells 29 = .ok (.iconst 1, 1) := by decide +kernel
theorem dX0_tryCells_30 : decode cX0_tryCells 30 = .ok (.iadd, 1) := by decide +kernel
theorem dX0_tryCells_31 : decode cX0_tryCells 31 = .ok (.iload_n 2, 1) := by decide +kernel
theorem dX0_tryCells_32 : decode cX0_tryCells 32 = .ok (.iload_n 3, 1) := by decide +kernel
theorem dX0_tryCells_33 : decode cX0_tryCells 33 = .ok (.iload 4, 2) := by decide +kernel
theorem dX0_tryCells_35 : decode cX0_tryCells 35 = .ok (.invokevirtual 41, 3) := by decide +kernel
theorem dX0_tryCells_38 : decode cX0_tryCells 38 = .ok (.return_, 1) := by decide +kernel
theorem dX0_tryCells_39 : decode cX0_tryCells 39 = .ok (.aload_n 0, 1) := by decide +kernel
theorem dX0_tryCells_40 : decode cX0_tryCells 40 = .ok (.getfield 9, 3) := by decide +kernel
theorem dX0_tryCells_43 : decode cX0_tryCells 43 = .ok (.iload_n 1, 1) := by decide +kernel
theorem dX0_tryCells_44 : decode cX0_tryCells 44 = .ok (.iaload, 1) := by decide +kernel
theorem dX0_tryCells_45 : decode cX0_tryCells 45 = .ok (.invokestatic 49, 3) := by decide +kernel
theorem dX0_tryCells_48 : decode cX0_tryCells 48 = .ok (.istore 5, 2) := by decide +kernel
theorem dX0_tryCells_50 : decode cX0_tryCells 50 = .ok (.iload 5, 2) := by decide +kernel
theorem dX0_tryCells_52 : decode cX0_tryCells 52 = .ok (.istore 6, 2) := by decide +kernel
theorem dX0_tryCells_54 : decode cX0_tryCells 54 = .ok (.iload 6, 2) := by decide +kernel
theorem dX0_tryCells_56 : decode cX0_tryCells 56 = .ok (.iload 5, 2) := by decide +kernel
theorem dX0_tryCells_58 : decode cX0_tryCells 58 = .ok (.iconst 3, 1) := by decide +kernel
theorem dX0_tryCells_59 : decode cX0_tryCells 59 = .ok (.iadd, 1) := by decide +kernel
theorem dX0_tryCells_60 : decode cX0_tryCells 60 = .ok (.if_icmp .gt 64, 3) := by decide +kernel
theorem dX0_tryCells_63 : decode cX0_tryCells 63 = .ok (.aload_n 0, 1) := by decide +kernel
theorem dX0_tryCells_64 : decode cX0_tryCells 64 = .ok (.invokevirtual 55, 3) := by decide +kernel
theorem dX0_tryCells_67 : decode cX0_tryCells 67 = .ok (.ifCond .ne 57, 3) := by decide +kernel
theorem dX0_tryCells_70 : decode cX0_tryCells 70 = .ok (.aload_n 0, 1) := by decide +kernel
theorem dX0_tryCells_71 : decode cX0_tryCells 71 = .ok (.getfield 9, 3) := by decide +kernel
theorem dX0_tryCells_74 : decode cX0_tryCells 74 = .ok (.iload_n 1, 1) := by decide +kernel
theorem dX0_tryCells_75 : decode cX0_tryCells 75 = .ok (.iaload, 1) := by decide +kernel
theorem dX0_tryCells_76 : decode cX0_tryCells 76 = .ok (.iload 6, 2) := by decide +kernel
theorem dX0_tryCells_78 : decode cX0_tryCells 78 = .ok (.ishr, 1) := by decide +kernel
theorem dX0_tryCells_79 : decode cX0_tryCells 79 = .ok (.iconst 1, 1) := by decide +kernel
theorem dX0_tryCells_80 : decode cX0_tryCells 80 = .ok (.iand, 1) := by decide +kernel
theorem dX0_tryCells_81 : decode cX0_tryCells 81 = .ok (.iconst 1, 1) := by decide +kernel
theorem dX0_tryCells_82 : decode cX0_tryCells 82 = .ok (.if_icmp .ne 36, 3) := by decide +kernel
theorem dX0_tryCells_85 : decode cX0_tryCells 85 = .ok (.aload_n 0, 1) := by decide +kernel
theorem dX0_tryCells_86 : decode cX0_tryCells 86 = .ok (.getfield 15, 3) := by decide +kernel
theorem dX0_tryCells_89 : decode cX0_tryCells 89 = .ok (.iload_n 1, 1) := by decide +kernel
theorem dX0_tryCells_90 : decode cX0_tryCells 90 = .ok (.iload 6, 2) := by decide +kernel
theorem dX0_tryCells_92 : decode cX0_tryCells 92 = .ok (.iastore, 1) := by decide +kernel
theorem dX0_tryCells_93 : decode cX0_tryCells 93 = .ok (.aload_n 0, 1) := by decide +kernel
theorem dX0_tryCells_94 : decode cX0_tryCells 94 = .ok (.iload_n 1, 1) := by decide +kernel
theorem dX0_tryCells_95 : decode cX0_tryCells 95 = .ok (.iconst 1, 1) := by decide +kernel
theorem dX0_tryCells_96 : decode cX0_tryCells 96 = .ok (.iadd, 1) := by decide +kernel
theorem dX0_tryCells_97 : decode cX0_tryCells 97 = .ok (.iload_n 2, 1) := by decide +kernel
theorem dX0_tryCells_98 : decode cX0_tryCells 98 = .ok (.iload 6, 2) := by decide +kernel
theorem dX0_tryCells_100 : decode cX0_tryCells 100 = .ok (.iadd, 1) := by decide +kernel
theorem dX0_tryCells_101 : decode cX0_tryCells 101 = .ok (.iload_n 3, 1) := by decide +kernel
theorem dX0_tryCells_102 : decode cX0_tryCells 102 = .ok (.iload 6, 2) := by decide +kernel
theorem dX0_tryCells_104 : decode cX0_tryCells 104 = .ok (.iload 6, 2) := by decide +kernel
theorem dX0_tryCells_106 : decode cX0_tryCells 106 = .ok (.imul, 1) := by decide +kernel
theorem dX0_tryCells_107 : decode cX0_tryCells 107 = .ok (.iadd, 1) := by decide +kernel
theorem dX0_tryCells_108 : decode cX0_tryCells 108 = .ok (.iload 4, 2) := by decide +kernel
theorem dX0_tryCells_110 : decode cX0_tryCells 110 = .ok (.iload_n 1, 1) := by decide +kernel
theorem dX0_tryCells_111 : decode cX0_tryCells 111 = .ok (.iload 6, 2) := by decide +kernel
theorem dX0_tryCells_113 : decode cX0_tryCells 113 = .ok (.imul, 1) := by decide +kernel
theorem dX0_tryCells_114 : decode cX0_tryCells 114 = .ok (.iadd, 1) := by decide +kernel
theorem dX0_tryCells_115 : decode cX0_tryCells 115 = .ok (.invokevirtual 41, 3) := by decide +kernel
theorem dX0_tryCells_118 : decode cX0_tryCells 118 = .ok (.iinc 6 1, 3) := by decide +kernel
theorem dX0_tryCells_121 : decode cX0_tryCells 121 = .ok (.goto (-67), 3) := by decide +kernel
theorem dX0_tryCells_124 : decode cX0_tryCells 124 = .ok (.return_, 1) := by decide +kernel
theorem dX0_isPerfect_0 : decode cX0_isPerfect 0 = .ok (.aload_n 0, 1) := by decide +kernel
theorem dX0_isPerfect_1 : decode cX0_isPerfect 1 = .ok (.getfield 38, 3) := by decide +kernel
theorem dX0_isPerfect_4 : decode cX0_isPerfect 4 = .ok (.ifCond .ne 7, 3) := by decide +kernel
theorem dX0_isPerfect_7 : decode cX0_isPerfect 7 = .ok (.iconst 1, 1) := by decide +kernel
theorem dX0_isPerfect_8 : decode cX0_isPerfect 8 = .ok (.goto 4, 3) := by decide +kernel
theorem dX0_isPerfect_11 : decode cX0_isPerfect 11 = .ok (.iconst 0, 1) := by decide +kernel
theorem dX0_isPerfect_12 : decode cX0_isPerfect 12 = .ok (.ireturn, 1) := by decide +kernel
theorem dX0_takeTrial_0 : decode cX0_takeTrial 0 = .ok (.aload_n 0, 1) := by decide +kernel
theorem dX0_takeTrial_1 : decode cX0_takeTrial 1 = .ok (.getfield 21, 3) := by decide +kernel
theorem dX0_takeTrial_4 : decode cX0_takeTrial 4 = .ok (.iload_n 3, 1) := by decide +kernel
theorem dX0_takeTrial_5 : decode cX0_takeTrial 5 = .ok (.imul, 1) := by decide +kernel
theorem dX0_takeTrial_6 : decode cX0_takeTrial 6 = .ok (.aload_n 0, 1) := by decide +kernel
theorem dX0_takeTrial_7 : decode cX0_takeTrial 7 = .ok (.getfield 25, 3) := by decide +kernel
theorem dX0_takeTrial_10 : decode cX0_takeTrial 10 = .ok (.iload_n 1, 1) := by decide +kernel
theorem dX0_takeTrial_11 : decode cX0_takeTrial 11 = .ok (.imul, 1) := by decide +kernel
theorem dX0_takeTrial_12 : decode cX0_takeTrial 12 = .ok (.isub, 1) := by decide +kernel
theorem dX0_takeTrial_13 : decode cX0_takeTrial 13 = .ok (.istore 4, 2) := by decide +kernel
theorem dX0_takeTrial_15 : decode cX0_takeTrial 15 = .ok (.aload_n 0, 1) := by decide +kernel
theorem dX0_takeTrial_16 : decode cX0_takeTrial 16 = .ok (.getfield 21, 3) := by decide +kernel
theorem dX0_takeTrial_19 : decode cX0_takeTrial 19 = .ok (.iload_n 2, 1) := by decide +kernel
theorem dX0_takeTrial_20 : decode cX0_takeTrial 20 = .ok (.imul, 1) := by decide +kernel
theorem dX0_takeTrial_21 : decode cX0_takeTrial 21 = .ok (.iload_n 1, 1) := by decide +kernel
theorem dX0_takeTrial_22 : decode cX0_takeTrial 22 = .ok (.iload_n 1, 1) := by decide +kernel
theorem dX0_takeTrial_23 : decode cX0_takeTrial 23 = .ok (.imul, 1) := by decide +kernel
theorem dX0_takeTrial_24 : decode cX0_takeTrial 24 = .ok (.isub, 1) := by decide +kernel
theorem dX0_takeTrial_25 : decode cX0_takeTrial 25 = .ok (.aload_n 0, 1) := by decide +kernel
theorem dX0_takeTrial_26 : decode cX0_takeTrial 26 = .ok (.getfield 34, 3) := by decide +kernel
theorem dX0_takeTrial_29 : decode cX0_takeTrial 29 = .ok (.imul, 1) := by decide +kernel
theorem dX0_takeTrial_30 : decode cX0_takeTrial 30 = .ok (.iload 4, 2) := by decide +kernel
theorem dX0_takeTrial_32 : decode cX0_takeTrial 32 = .ok (.iload 4, 2) := by decide +kernel
theorem dX0_takeTrial_34 : decode cX0_takeTrial 34 = .ok (.imul, 1) := by decide +kernel
theorem dX0_takeTrial_35 : decode cX0_takeTrial 35 = .ok (.isub, 1) := by decide +kernel
theorem dX0_takeTrial_36 : decode cX0_takeTrial 36 = .ok (.istore 5, 2) := by decide +kernel
theorem dX0_takeTrial_38 : decode cX0_takeTrial 38 = .ok (.iload 5, 2) := by decide +kernel
theorem dX0_takeTrial_40 : decode cX0_takeTrial 40 = .ok (.aload_n 0, 1) := by decide +kernel
theorem dX0_takeTrial_41 : decode cX0_takeTrial 41 = .ok (.getfield 38, 3) := by decide +kernel
theorem dX0_takeTrial_44 : decode cX0_takeTrial 44 = .ok (.if_icmp .lt 4, 3) := by decide +kernel
theorem dX0_takeTrial_47 : decode cX0_takeTrial 47 = .ok (.return_, 1) := by decide +kernel
theorem dX0_takeTrial_48 : decode cX0_takeTrial 48 = .ok (.aload_n 0, 1) := by decide +kernel
theorem dX0_takeTrial_49 : decode cX0_takeTrial 49 = .ok (.iload 5, 2) := by decide +kernel
theorem dX0_takeTrial_51 : decode cX0_takeTrial 51 = .ok (.putfield 38, 3) := by decide +kernel
theorem dX0_takeTrial_54 : decode cX0_takeTrial 54 = .ok (.iconst 0, 1) := by decide +kernel
theorem dX0_takeTrial_55 : decode cX0_takeTrial 55 = .ok (.istore 6, 2) := by decide +kernel
theorem dX0_takeTrial_57 : decode cX0_takeTrial 57 = .ok (.iload 6, 2) := by decide +kernel
theorem dX0_takeTrial_59 : decode cX0_takeTrial 59 = .ok (.iconst 5, 1) := by decide +kernel
theorem dX0_takeTrial_60 : decode cX0_takeTrial 60 = .ok (.if_icmp .ge 23, 3) := by decide +kernel
theorem dX0_takeTrial_63 : decode cX0_takeTrial 63 = .ok (.aload_n 0, 1) := by decide +kernel
theorem dX0_takeTrial_64 : decode cX0_takeTrial 64 = .ok (.getfield 18, 3) := by decide +kernel
theorem dX0_takeTrial_67 : decode cX0_takeTrial 67 = .ok (.iload 6, 2) := by decide +kernel
theorem dX0_takeTrial_69 : decode cX0_takeTrial 69 = .ok (.aload_n 0, 1) := by decide +kernel
theorem dX0_takeTrial_70 : decode cX0_takeTrial 70 = .ok (.getfield 15, 3) := by decide +kernel
theorem dX0_takeTrial_73 : decode cX0_takeTrial 73 = .ok (.iload 6, 2) := by decide +kernel
theorem dX0_takeTrial_75 : decode cX0_takeTrial 75 = .ok (.iaload, 1) := by decide +kernel
theorem dX0_takeTrial_76 : decode cX0_takeTrial 76 = .ok (.iastore, 1) := by decide +kernel
theorem dX0_takeTrial_77 : decode cX0_takeTrial 77 = .ok (.iinc 6 1, 3) := by decide +kernel
theorem dX0_takeTrial_80 : decode cX0_takeTrial 80 = .ok (.goto (-23), 3) := by decide +kernel
theorem dX0_takeTrial_83 : decode cX0_takeTrial 83 = .ok (.return_, 1) := by decide +kernel
theorem dX0_above_0 : decode cX0_above 0 = .ok (.aload_n 0, 1) := by decide +kernel
theorem dX0_above_1 : decode cX0_above 1 = .ok (.getfield 38, 3) := by decide +kernel
theorem dX0_above_4 : decode cX0_above 4 = .ok (.ireturn, 1) := by decide +kernel
theorem dX0_below_0 : decode cX0_below 0 = .ok (.aload_n 0, 1) := by decide +kernel
theorem dX0_below_1 : decode cX0_below 1 = .ok (.getfield 21, 3) := by decide +kernel
theorem dX0_below_4 : decode cX0_below 4 = .ok (.aload_n 0, 1) := by decide +kernel
theorem dX0_below_5 : decode cX0_below 5 = .ok (.getfield 34, 3) := by decide +kernel
theorem dX0_below_8 : decode cX0_below 8 = .ok (.imul, 1) := by decide +kernel
theorem dX0_below_9 : decode cX0_below 9 = .ok (.iconst 1, 1) := by decide +kernel
theorem dX0_below_10 : decode cX0_below 10 = .ok (.invokestatic 59, 3) := by decide +kernel
theorem dX0_below_13 : decode cX0_below 13 = .ok (.ireturn, 1) := by decide +kernel
theorem dX0_worth_0 : decode cX0_worth 0 = .ok (.bipush 100, 2) := by decide +kernel
theorem dX0_worth_2 : decode cX0_worth 2 = .ok (.aload_n 0, 1) := by decide +kernel
theorem dX0_worth_3 : decode cX0_worth 3 = .ok (.getfield 21, 3) := by decide +kernel
theorem dX0_worth_6 : decode cX0_worth 6 = .ok (.imul, 1) := by decide +kernel
theorem dX0_worth_7 : decode cX0_worth 7 = .ok (.bipush 10, 2) := by decide +kernel
theorem dX0_worth_9 : decode cX0_worth 9 = .ok (.aload_n 0, 1) := by decide +kernel
theorem dX0_worth_10 : decode cX0_worth 10 = .ok (.getfield 38, 3) := by decide +kernel
theorem dX0_worth_13 : decode cX0_worth 13 = .ok (.imul, 1) := by decide +kernel
theorem dX0_worth_14 : decode cX0_worth 14 = .ok (.aload_n 0, 1) := by decide +kernel
theorem dX0_worth_15 : decode cX0_worth 15 = .ok (.invokevirtual 65, 3) := by decide +kernel
theorem dX0_worth_18 : decode cX0_worth 18 = .ok (.idiv, 1) := by decide +kernel
theorem dX0_worth_19 : decode cX0_worth 19 = .ok (.isub, 1) := by decide +kernel
theorem dX0_worth_20 : decode cX0_worth 20 = .ok (.iconst 0, 1) := by decide +kernel
theorem dX0_worth_21 : decode cX0_worth 21 = .ok (.invokestatic 59, 3) := by decide +kernel
theorem dX0_worth_24 : decode cX0_worth 24 = .ok (.ireturn, 1) := by decide +kernel
theorem dX1_init_0 : decode cX1_init 0 = .ok (.aload_n 0, 1) := by decide +kernel
theorem dX1_init_1 : decode cX1_init 1 = .ok (.invokespecial 3, 3) := by decide +kernel
theorem dX1_init_4 : decode cX1_init 4 = .ok (.aload_n 0, 1) := by decide +kernel
theorem dX1_init_5 : decode cX1_init 5 = .ok (.bipush 60, 2) := by decide +kernel
theorem dX1_init_7 : decode cX1_init 7 = .ok (.newarray .int, 2) := by decide +kernel
theorem dX1_init_9 : decode cX1_init 9 = .ok (.putfield 9, 3) := by decide +kernel
theorem dX1_init_12 : decode cX1_init 12 = .ok (.aload_n 0, 1) := by decide +kernel
theorem dX1_init_13 : decode cX1_init 13 = .ok (.bipush 12, 2) := by decide +kernel
theorem dX1_init_15 : decode cX1_init 15 = .ok (.newarray .int, 2) := by decide +kernel
theorem dX1_init_17 : decode cX1_init 17 = .ok (.putfield 15, 3) := by decide +kernel
theorem dX1_init_20 : decode cX1_init 20 = .ok (.aload_n 0, 1) := by decide +kernel
theorem dX1_init_21 : decode cX1_init 21 = .ok (.bipush 12, 2) := by decide +kernel
theorem dX1_init_23 : decode cX1_init 23 = .ok (.newarray .int, 2) := by decide +kernel
theorem dX1_init_25 : decode cX1_init 25 = .ok (.putfield 18, 3) := by decide +kernel
theorem dX1_init_28 : decode cX1_init 28 = .ok (.aload_n 0, 1) := by decide +kernel
theorem dX1_init_29 : decode cX1_init 29 = .ok (.bipush 12, 2) := by decide +kernel
theorem dX1_init_31 : decode cX1_init 31 = .ok (.newarray .int, 2) := by decide +kernel
theorem dX1_init_33 : decode cX1_init 33 = .ok (.putfield 21, 3) := by decide +kernel
theorem dX1_init_36 : decode cX1_init 36 = .ok (.return_, 1) := by decide +kernel
theorem dX1_empty_0 : decode cX1_empty 0 = .ok (.aload_n 0, 1) := by decide +kernel
theorem dX1_empty_1 : decode cX1_empty 1 = .ok (.iconst 0, 1) := by decide +kernel
theorem dX1_empty_2 : decode cX1_empty 2 = .ok (.putfield 24, 3) := by decide +kernel
theorem dX1_empty_5 : decode cX1_empty 5 = .ok (.aload_n 0, 1) := by decide +kernel
theorem dX1_empty_6 : decode cX1_empty 6 = .ok (.iconst 0, 1) := by decide +kernel
theorem dX1_empty_7 : decode cX1_empty 7 = .ok (.putfield 28, 3) := by decide +kernel
theorem dX1_empty_10 : decode cX1_empty 10 = .ok (.aload_n 0, 1) := by decide +kernel
theorem dX1_empty_11 : decode cX1_empty 11 = .ok (.iconst 0, 1) := by decide +kernel
theorem dX1_empty_12 : decode cX1_empty 12 = .ok (.putfield 31, 3) := by decide +kernel
theorem dX1_empty_15 : decode cX1_empty 15 = .ok (.return_, 1) := by decide +kernel
theorem dX1_put_0 : decode cX1_put 0 = .ok (.aload_n 0, 1) := by decide +kernel
theorem dX1_put_1 : decode cX1_put 1 = .ok (.getfield 24, 3) := by decide +kernel
theorem dX1_put_4 : decode cX1_put 4 = .ok (.bipush 12, 2) := by decide +kernel
theorem dX1_put_6 : decode cX1_put 6 = .ok (.if_icmp .ge 9, 3) := by decide +kernel
theorem dX1_put_9 : decode cX1_put 9 = .ok (.aload_n 2, 1) := by decide +kernel
theorem dX1_put_10 : decode cX1_put 10 = .ok (.arraylength, 1) := by decide +kernel
theorem dX1_put_11 : decode cX1_put 11 = .ok (.iconst 5, 1) := by decide +kernel
theorem dX1_put_12 : decode cX1_put 12 = .ok (.if_icmp .ge 4, 3) := by decide +kernel
theorem dX1_put_15 : decode cX1_put 15 = .ok (.return_, 1) := by decide +kernel
theorem dX1_put_16 : decode cX1_put 16 = .ok (.iconst 0, 1) := by decide +kernel
theorem dX1_put_17 : decode cX1_put 17 = .ok (.istore_n 3, 1) := by decide +kernel
theorem dX1_put_18 : decode cX1_put 18 = .ok (.iload_n 3, 1) := by decide +kernel
theorem dX1_put_19 : decode cX1_put 19 = .ok (.iconst 5, 1) := by decide +kernel
theorem dX1_put_20 : decode cX1_put 20 = .ok (.if_icmp .ge 25, 3) := by decide +kernel
theorem dX1_put_23 : decode cX1_put 23 = .ok (.aload_n 0, 1) := by decide +kernel
theorem dX1_put_24 : decode cX1_put 24 = .ok (.getfield 9, 3) := by decide +kernel
theorem dX1_put_27 : decode cX1_put 27 = .ok (.aload_n 0, 1) := by decide +kernel
theorem dX1_put_28 : decode cX1_put 28 = .ok (.getfield 24, 3) := by decide +kernel
theorem dX1_put_31 : decode cX1_put 31 = .ok (.iconst 5, 1) := by decide +kernel
theorem dX1_put_32 : decode cX1_put 32 = .ok (.imul, 1) := by decide +kernel
theorem dX1_put_33 : decode cX1_put 33 = .ok (.iload_n 3, 1) := by decide +kernel
theorem dX1_put_34 : decode cX1_put 34 = .ok (.iadd, 1) := by decide +kernel
theorem dX1_put_35 : decode cX1_put 35 = .ok (.aload_n 2, 1) := by decide +kernel
theorem dX1_put_36 : decode cX1_put 36 = .ok (.iload_n 3, 1) := by decide +kernel
theorem dX1_put_37 : decode cX1_put 37 = .ok (.iaload, 1) := by decide +kernel
theorem dX1_put_38 : decode cX1_put 38 = .ok (.iastore, 1) := by decide +kernel
theorem dX1_put_39 : decode cX1_put 39 = .ok (.iinc 3 1, 3) := by decide +kernel
theorem dX1_put_42 : decode cX1_put 42 = .ok (.goto (-24), 3) := by decide +kernel
theorem dX1_put_45 : decode cX1_put 45 = .ok (.aload_n 0, 1) := by decide +kernel
theorem dX1_put_46 : decode cX1_put 46 = .ok (.getfield 18, 3) := by decide +kernel
theorem dX1_put_49 : decode cX1_put 49 = .ok (.aload_n 0, 1) := by decide +kernel
theorem dX1_put_50 : decode cX1_put 50 = .ok (.getfield 24, 3) := by decide +kernel
theorem dX1_put_53 : decode cX1_put 53 = .ok (.iload_n 1, 1) := by decide +kernel
theorem dX1_put_54 : decode cX1_put 54 = .ok (.iastore, 1) := by decide +kernel
theorem dX1_put_55 : decode cX1_put 55 = .ok (.aload_n 0, 1) := by decide +kernel
theorem dX1_put_56 : decode cX1_put 56 = .ok (.getfield 21, 3) := by decide +kernel
theorem dX1_put_59 : decode cX1_put 59 = .ok (.aload_n 0, 1) := by decide +kernel
theorem dX1_put_60 : decode cX1_put 60 = .ok (.getfield 24, 3) := by decide +kernel
theorem dX1_put_63 : decode cX1_put 63 = .ok (.iload_n 1, 1) := by decide +kernel
theorem dX1_put_64 : decode cX1_put 64 = .ok (.aload_n 0, 1) := by decide +kernel
theorem dX1_put_65 : decode cX1_put 65 = .ok (.getfield 24, 3) := by decide +kernel
theorem dX1_put_68 : decode cX1_put 68 = .ok (.ifCond .ne 7, 3) := by decide +kernel
theorem dX1_put_71 : decode cX1_put 71 = .ok (.iconst 0, 1) := by decide +kernel
theorem dX1_put_72 : decode cX1_put 72 = .ok (.goto 14, 3) := by decide +kernel
theorem dX1_put_75 : decode cX1_put 75 = .ok (.aload_n 0, 1) := by decide +kernel
theorem dX1_put_76 : decode cX1_put 76 = .ok (.getfield 21, 3) := by decide +kernel
theorem dX1_put_79 : decode cX1_put 79 = .ok (.aload_n 0, 1) := by decide +kernel
theorem dX1_put_80 : decode cX1_put 80 = .ok (.getfield 24, 3) := by decide +kernel
theorem dX1_put_83 : decode cX1_put 83 = .ok (.iconst 1, 1) := by decide +kernel
theorem dX1_put_84 : decode cX1_put 84 = .ok (.isub, 1) := by decide +kernel
theorem dX1_put_85 : decode cX1_put 85 = .ok (.iaload, 1) := by decide +kernel
theorem dX1_put_86 : decode cX1_put 86 = .ok (.iadd, 1) := by decide +kernel
theorem dX1_put_87 : decode cX1_put 87 = .ok (.iastore, 1) := by decide +kernel
theorem dX1_put_88 : decode cX1_put 88 = .ok (.aload_n 0, 1) := by decide +kernel
theorem dX1_put_89 : decode cX1_put 89 = .ok (.getfield 15, 3) := by decide +kernel
theorem dX1_put_92 : decode cX1_put 92 = .ok (.aload_n 0, 1) := by decide +kernel
theorem dX1_put_93 : decode cX1_put 93 = .ok (.getfield 24, 3) := by decide +kernel
theorem dX1_put_96 : decode cX1_put 96 = .ok (.iconst 0, 1) := by decide +kernel
theorem dX1_put_97 : decode cX1_put 97 = .ok (.iastore, 1) := by decide +kernel
theorem dX1_put_98 : decode cX1_put 98 = .ok (.iconst 0, 1) := by decide +kernel
theorem dX1_put_99 : decode cX1_put 99 = .ok (.istore_n 3, 1) := by decide +kernel
theorem dX1_put_100 : decode cX1_put 100 = .ok (.iload_n 3, 1) := by decide +kernel
theorem dX1_put_101 : decode cX1_put 101 = .ok (.aload_n 0, 1) := by decide +kernel
theorem dX1_put_102 : decode cX1_put 102 = .ok (.getfield 24, 3) := by decide +kernel
theorem dX1_put_105 : decode cX1_put 105 = .ok (.if_icmp .ge 36, 3) := by decide +kernel
theorem dX1_put_108 : decode cX1_put 108 = .ok (.aload_n 0, 1) := by decide +kernel
theorem dX1_put_109 : decode cX1_put 109 = .ok (.aload_n 0, 1) := by decide +kernel
theorem dX1_put_110 : decode cX1_put 110 = .ok (.getfield 24, 3) := by decide +kernel
theorem dX1_put_113 : decode cX1_put 113 = .ok (.iload_n 3, 1) := by decide +kernel
theorem dX1_put_114 : decode cX1_put 114 = .ok (.invokevirtual 34, 3) := by decide +kernel
theorem dX1_put_117 : decode cX1_put 117 = .ok (.ifCond .eq 18, 3) := by decide +kernel
theorem dX1_put_120 : decode cX1_put 120 = .ok (.aload_n 0, 1) := by decide +kernel
theorem dX1_put_121 : decode cX1_put 121 = .ok (.getfield 15, 3) := by decide +kernel
theorem dX1_put_124 : decode cX1_put 124 = .ok (.iload_n 3, 1) := by decide +kernel
theorem dX1_put_125 : decode cX1_put 125 = .ok (.dup2, 1) := by decide +kernel
theorem dX1_put_126 : decode cX1_put 126 = .ok (.iaload, 1) := by decide +kernel
theorem dX1_put_127 : decode cX1_put 127 = .ok (.iconst 1, 1) := by decide +kernel
theorem dX1_put_128 : decode cX1_put 128 = .ok (.aload_n 0, 1) := by decide +kernel
theorem dX1_put_129 : decode cX1_put 129 = .ok (.getfield 24, 3) := by decide +kernel
theorem dX1_put_132 : decode cX1_put 132 = .ok (.ishl, 1) := by decide +kernel
theorem dX1_put_133 : decode cX1_put 133 = .ok (.ior, 1) := by decide +kernel
theorem dX1_put_134 : decode cX1_put 134 = .ok (.iastore, 1) := by decide +kernel
theorem dX1_put_135 : decode cX1_put 135 = .ok (.iinc 3 1, 3) := by decide +kernel
theorem dX1_put_138 : decode cX1_put 138 = .ok (.goto (-38), 3) := by decide +kernel
theorem dX1_put_141 : decode cX1_put 141 = .ok (.aload_n 0, 1) := by decide +kernel
theorem dX1_put_142 : decode cX1_put 142 = .ok (.dup, 1) := by decide +kernel
theorem dX1_put_143 : decode cX1_put 143 = .ok (.getfield 24, 3) := by decide +kernel
theorem dX1_put_146 : decode cX1_put 146 = .ok (.iconst 1, 1) := by decide +kernel
theorem dX1_put_147 : decode cX1_put 147 = .ok (.iadd, 1) := by decide +kernel
theorem dX1_put_148 : decode cX1_put 148 = .ok (.putfield 24, 3) := by decide +kernel
theorem dX1_put_151 : decode cX1_put 151 = .ok (.return_, 1) := by decide +kernel
theorem dX1_clash_0 : decode cX1_clash 0 = .ok (.iconst 0, 1) := by decide +kernel
theorem dX1_clash_1 : decode cX1_clash 1 = .ok (.istore_n 3, 1) := by decide +kernel
theorem dX1_clash_2 : decode cX1_clash 2 = .ok (.iload_n 3, 1) := by decide +kernel
theorem dX1_clash_3 : decode cX1_clash 3 = .ok (.iconst 5, 1) := by decide +kernel
theorem dX1_clash_4 : decode cX1_clash 4 = .ok (.if_icmp .ge 44, 3) := by decide +kernel
theorem dX1_clash_7 : decode cX1_clash 7 = .ok (.aload_n 0, 1) := by decide +kernel
theorem dX1_clash_8 : decode cX1_clash 8 = .ok (.getfield 9, 3) := by decide +kernel
theorem dX1_clash_11 : decode cX1_clash 11 = .ok (.iload_n 1, 1) := by decide +kernel
theorem dX1_clash_12 : decode cX1_clash 12 = .ok (.iconst 5, 1) := by decide +kernel
theorem dX1_clash_13 : decode cX1_clash 13 = .ok (.imul, 1) := by decide +kernel
theorem dX1_clash_14 : decode cX1_clash 14 = .ok (.iload_n 3, 1) := by decide +kernel
theorem dX1_clash_15 : decode cX1_clash 15 = .ok (.iadd, 1) := by decide +kernel
theorem dX1_clash_16 : decode cX1_clash 16 = .ok (.iaload, 1) := by decide +kernel
theorem dX1_clash_17 : decode cX1_clash 17 = .ok (.istore 4, 2) := by decide +kernel
theorem dX1_clash_19 : decode cX1_clash 19 = .ok (.iload 4, 2) := by decide +kernel
theorem dX1_clash_21 : decode cX1_clash 21 = .ok (.iconst (-1), 1) := by decide +kernel
theorem dX1_clash_22 : decode cX1_clash 22 = .ok (.if_icmp .eq 20, 3) := by decide +kernel
theorem dX1_clash_25 : decode cX1_clash 25 = .ok (.iload 4, 2) := by decide +kernel
theorem dX1_clash_27 : decode cX1_clash 27 = .ok (.aload_n 0, 1) := by decide +kernel
theorem dX1_clash_28 : decode cX1_clash 28 = .ok (.getfield 9, 3) := by decide +kernel
theorem dX1_clash_31 : decode cX1_clash 31 = .ok (.iload_n 2, 1) := by decide +kernel
theorem dX1_clash_32 : decode cX1_clash 32 = .ok (.iconst 5, 1) := by decide +kernel
theorem dX1_clash_33 : decode cX1_clash 33 = .ok (.imul, 1) := by decide +kernel
theorem dX1_clash_34 : decode cX1_clash 34 = .ok (.iload_n 3, 1) := by decide +kernel
theorem dX1_clash_35 : decode cX1_clash 35 = .ok (.iadd, 1) := by decide +kernel
theorem dX1_clash_36 : decode cX1_clash 36 = .ok (.iaload, 1) := by decide +kernel
theorem dX1_clash_37 : decode cX1_clash 37 = .ok (.if_icmp .ne 5, 3) := by decide +kernel
theorem dX1_clash_40 : decode cX1_clash 40 = .ok (.iconst 1, 1) := by decide +kernel
theorem dX1_clash_41 : decode cX1_clash 41 = .ok (.ireturn, 1) := by decide +kernel
theorem dX1_clash_42 : decode cX1_clash 42 = .ok (.iinc 3 1, 3) := by decide +kernel
theorem dX1_clash_45 : decode cX1_clash 45 = .ok (.goto (-43), 3) := by decide +kernel
theorem dX1_clash_48 : decode cX1_clash 48 = .ok (.iconst 0, 1) := by decide +kernel
theorem dX1_clash_49 : decode cX1_clash 49 = .ok (.ireturn, 1) := by decide +kernel
theorem dX1_choose_0 : decode cX1_choose 0 = .ok (.aload_n 0, 1) := by decide +kernel
theorem dX1_choose_1 : decode cX1_choose 1 = .ok (.aload_n 0, 1) := by decide +kernel
theorem dX1_choose_2 : decode cX1_choose 2 = .ok (.getfield 24, 3) := by decide +kernel
theorem dX1_choose_5 : decode cX1_choose 5 = .ok (.iconst 1, 1) := by decide +kernel
theorem dX1_choose_6 : decode cX1_choose 6 = .ok (.isub, 1) := by decide +kernel
theorem dX1_choose_7 : decode cX1_choose 7 = .ok (.iconst 0, 1) := by decide +kernel
theorem dX1_choose_8 : decode cX1_choose 8 = .ok (.iconst 0, 1) := by decide +kernel
theorem dX1_choose_9 : decode cX1_choose 9 = .ok (.invokevirtual 38, 3) := by decide +kernel
theorem dX1_choose_12 : decode cX1_choose 12 = .ok (.return_, 1) := by decide +kernel
theorem dX1_chooseFrom_0 : decode cX1_chooseFrom 0 = .ok (.iload_n 1, 1) := by decide +kernel
theorem dX1_chooseFrom_1 : decode cX1_chooseFrom 1 = .ok (.ifCond .lt 9, 3) := by decide +kernel
theorem dX1_chooseFrom_4 : decode cX1_chooseFrom 4 = .ok (.iload_n 1, 1) := by decide +kernel
theorem dX1_chooseFrom_5 : decode cX1_chooseFrom 5 = .ok (.bipush 12, 2) := by decide +kernel
theorem dX1_chooseFrom_7 : decode cX1_chooseFrom 7 = .ok (.if_icmp .lt 22, 3) := by decide +kernel
theorem dX1_chooseFrom_10 : decode cX1_chooseFrom 10 = .ok (.iload_n 3, 1) := by decide +kernel
theorem dX1_chooseFrom_11 : decode cX1_chooseFrom 11 = .ok (.aload_n 0, 1) := by decide +kernel
theorem dX1_chooseFrom_12 : decode cX1_chooseFrom 12 = .ok (.getfield 31, 3) := by decide +kernel
theorem dX1_chooseFrom_15 : decode cX1_chooseFrom 15 = .ok (.if_icmp .le 13, 3) := by decide +kernel
theorem dX1_chooseFrom_18 : decode cX1_chooseFrom 18 = .ok (.aload_n 0, 1) := by decide +kernel
theorem dX1_chooseFrom_19 : decode cX1_chooseFrom 19 = .ok (.iload_n 3, 1) := by decide +kernel
theorem dX1_chooseFrom_20 : decode cX1_chooseFrom 20 = .ok (.putfield 31, 3) := by decide +kernel
theorem dX1_chooseFrom_23 : decode cX1_chooseFrom 23 = .ok (.aload_n 0, 1) := by decide +kernel
theorem dX1_chooseFrom_24 : decode cX1_chooseFrom 24 = .ok (.iload_n 2, 1) := by decide +kernel
theorem dX1_chooseFrom_25 : decode cX1_chooseFrom 25 = .ok (.putfield 28, 3) := by decide +kernel
theorem dX1_chooseFrom_28 : decode cX1_chooseFrom 28 = .ok (.return_, 1) := by decide +kernel
theorem dX1_chooseFrom_29 : decode cX1_chooseFrom 29 = .ok (.iload_n 3, 1) := by decide +kernel
theorem dX1_chooseFrom_30 : decode cX1_chooseFrom 30 = .ok (.aload_n 0, 1) := by decide +kernel
theorem dX1_chooseFrom_31 : decode cX1_chooseFrom 31 = .ok (.getfield 21, 3) := by decide +kernel
theorem dX1_chooseFrom_34 : decode cX1_chooseFrom 34 = .ok (.iload_n 1, 1) := by decide +kernel
theorem dX1_chooseFrom_35 : decode cX1_chooseFrom 35 = .ok (.iaload, 1) := by decide +kernel
theorem dX1_chooseFrom_36 : decode cX1_chooseFrom 36 = .ok (.iadd, 1) := by decide +kernel
theorem dX1_chooseFrom_37 : decode cX1_chooseFrom 37 = .ok (.aload_n 0, 1) := by decide +kernel
theorem dX1_chooseFrom_38 : decode cX1_chooseFrom 38 = .ok (.getfield 31, 3) := by decide +kernel
theorem dX1_chooseFrom_41 : decode cX1_chooseFrom 41 = .ok (.if_icmp .gt 4, 3) := by decide +kernel
theorem dX1_chooseFrom_44 : decode cX1_chooseFrom 44 = .ok (.return_, 1) := by decide +kernel
theorem dX1_chooseFrom_45 : decode cX1_chooseFrom 45 = .ok (.aload_n 0, 1) := by decide +kernel
theorem dX1_chooseFrom_46 : decode cX1_chooseFrom 46 = .ok (.iload_n 1, 1) := by decide +kernel
theorem dX1_chooseFrom_47 : decode cX1_chooseFrom 47 = .ok (.iconst 1, 1) := by decide +kernel
theorem dX1_chooseFrom_48 : decode cX1_chooseFrom 48 = .ok (.isub, 1) := by decide +kernel
theorem dX1_chooseFrom_49 : decode cX1_chooseFrom 49 = .ok (.iload_n 2, 1) := by decide +kernel
theorem dX1_chooseFrom_50 : decode cX1_chooseFrom 50 = .ok (.iload_n 3, 1) := by decide +kernel
theorem dX1_chooseFrom_51 : decode cX1_chooseFrom 51 = .ok (.invokevirtual 38, 3) := by decide +kernel
theorem dX1_chooseFrom_54 : decode cX1_chooseFrom 54 = .ok (.aload_n 0, 1) := by decide +kernel
theorem dX1_chooseFrom_55 : decode cX1_chooseFrom 55 = .ok (.getfield 18, 3) := by decide +kernel
theorem dX1_chooseFrom_58 : decode cX1_chooseFrom 58 = .ok (.iload_n 1, 1) := by decide +kernel
theorem dX1_chooseFrom_59 : decode cX1_chooseFrom 59 = .ok (.iaload, 1) := by decide +kernel
theorem dX1_chooseFrom_60 : decode cX1_chooseFrom 60 = .ok (.ifCond .le 34, 3) := by decide +kernel
theorem dX1_chooseFrom_63 : decode cX1_chooseFrom 63 = .ok (.aload_n 0, 1) := by decide +kernel
theorem dX1_chooseFrom_64 : decode cX1_chooseFrom 64 = .ok (.getfield 15, 3) := by decide +kernel
theorem dX1_chooseFrom_67 : decode cX1_chooseFrom 67 = .ok (.iload_n 1, 1) := by decide +kernel
theorem dX1_chooseFrom_68 : decode cX1_chooseFrom 68 = .ok (.iaload, 1) := by decide +kernel
theorem dX1_chooseFrom_69 : decode cX1_chooseFrom 69 = .ok (.iload_n 2, 1) := by decide +kernel
theorem dX1_chooseFrom_70 : decode cX1_chooseFrom 70 = .ok (.iand, 1) := by decide +kernel
theorem dX1_chooseFrom_71 : decode cX1_chooseFrom 71 = .ok (.ifCond .ne 23, 3) := by decide +kernel
theorem dX1_chooseFrom_74 : decode cX1_chooseFrom 74 = .ok (.aload_n 0, 1) := by decide +kernel
theorem dX1_chooseFrom_75 : decode cX1_chooseFrom 75 = .ok (.iload_n 1, 1) := by decide +kernel
theorem dX1_chooseFrom_76 : decode cX1_chooseFrom 76 = .ok (.iconst 1, 1) := by decide +kernel
theorem dX1_chooseFrom_77 : decode cX1_chooseFrom 77 = .ok (.isub, 1) := by decide +kernel
theorem dX1_chooseFrom_78 : decode cX1_chooseFrom 78 = .ok (.iload_n 2, 1) := by decide +kernel
theorem dX1_chooseFrom_79 : decode cX1_chooseFrom 79 = .ok (.iconst 1, 1) := by decide +kernel
theorem dX1_chooseFrom_80 : decode cX1_chooseFrom 80 = .ok (.iload_n 1, 1) := by decide +kernel
theorem dX1_chooseFrom_81 : decode cX1_chooseFrom 81 = .ok (.ishl, 1) := by decide +kernel
theorem dX1_chooseFrom_82 : decode cX1_chooseFrom 82 = .ok (.ior, 1) := by decide +kernel
theorem dX1_chooseFrom_83 : decode cX1_chooseFrom 83 = .ok (.iload_n 3, 1) := by decide +kernel
theorem dX1_chooseFrom_84 : decode cX1_chooseFrom 84 = .ok (.aload_n 0, 1) := by decide +kernel
theorem dX1_chooseFrom_85 : decode cX1_chooseFrom 85 = .ok (.getfield 18, 3) := by decide +kernel
theorem dX1_chooseFrom_88 : decode cX1_chooseFrom 88 = .ok (.iload_n 1, 1) := by decide +kernel
theorem dX1_chooseFrom_89 : decode cX1_chooseFrom 89 = .ok (.iaload, 1) := by decide +kernel
theorem dX1_chooseFrom_90 : decode cX1_chooseFrom 90 = .ok (.iadd, 1) := by decide +kernel
theorem dX1_chooseFrom_91 : decode cX1_chooseFrom 91 = .ok (.invokevirtual 38, 3) := by decide +kernel
theorem dX1_chooseFrom_94 : decode cX1_chooseFrom 94 = .ok (.return_, 1) := by decide +kernel
theorem dX2_init_0 : decode cX2_init 0 = .ok (.aload_n 0, 1) := by decide +kernel
theorem dX2_init_1 : decode cX2_init 1 = .ok (.invokespecial 1, 3) := by decide +kernel
theorem dX2_init_4 : decode cX2_init 4 = .ok (.aload_n 0, 1) := by decide +kernel
theorem dX2_init_5 : decode cX2_init 5 = .ok (.new 7, 3) := by decide +kernel
theorem dX2_init_8 : decode cX2_init 8 = .ok (.dup, 1) := by decide +kernel
theorem dX2_init_9 : decode cX2_init 9 = .ok (.invokespecial 9, 3) := by decide +kernel
theorem dX2_init_12 : decode cX2_init 12 = .ok (.putfield 10, 3) := by decide +kernel
theorem dX2_init_15 : decode cX2_init 15 = .ok (.aload_n 0, 1) := by decide +kernel
theorem dX2_init_16 : decode cX2_init 16 = .ok (.getfield 10, 3) := by decide +kernel
theorem dX2_init_19 : decode cX2_init 19 = .ok (.aload_n 1, 1) := by decide +kernel
theorem dX2_init_20 : decode cX2_init 20 = .ok (.invokevirtual 16, 3) := by decide +kernel
theorem dX2_init_23 : decode cX2_init 23 = .ok (.aload_n 0, 1) := by decide +kernel
theorem dX2_init_24 : decode cX2_init 24 = .ok (.iload_n 2, 1) := by decide +kernel
theorem dX2_init_25 : decode cX2_init 25 = .ok (.putfield 20, 3) := by decide +kernel
theorem dX2_init_28 : decode cX2_init 28 = .ok (.aload_n 0, 1) := by decide +kernel
theorem dX2_init_29 : decode cX2_init 29 = .ok (.iload_n 3, 1) := by decide +kernel
theorem dX2_init_30 : decode cX2_init 30 = .ok (.putfield 24, 3) := by decide +kernel
theorem dX2_init_33 : decode cX2_init 33 = .ok (.return_, 1) := by decide +kernel
theorem dX2_countPasses_0 : decode cX2_countPasses 0 = .ok (.aload_n 0, 1) := by decide +kernel
theorem dX2_countPasses_1 : decode cX2_countPasses 1 = .ok (.dup, 1) := by decide +kernel
theorem dX2_countPasses_2 : decode cX2_countPasses 2 = .ok (.getfield 28, 3) := by decide +kernel
theorem dX2_countPasses_5 : decode cX2_countPasses 5 = .ok (.iconst 1, 1) := by decide +kernel
theorem dX2_countPasses_6 : decode cX2_countPasses 6 = .ok (.iadd, 1) := by decide +kernel
theorem dX2_countPasses_7 : decode cX2_countPasses 7 = .ok (.putfield 28, 3) := by decide +kernel
theorem dX2_countPasses_10 : decode cX2_countPasses 10 = .ok (.aload_n 0, 1) := by decide +kernel
theorem dX2_countPasses_11 : decode cX2_countPasses 11 = .ok (.getfield 20, 3) := by decide +kernel
theorem dX2_countPasses_14 : decode cX2_countPasses 14 = .ok (.iconst 1, 1) := by decide +kernel
theorem dX2_countPasses_15 : decode cX2_countPasses 15 = .ok (.if_icmp .lt 15, 3) := by decide +kernel
theorem dX2_countPasses_18 : decode cX2_countPasses 18 = .ok (.aload_n 0, 1) := by decide +kernel
theorem dX2_countPasses_19 : decode cX2_countPasses 19 = .ok (.getfield 28, 3) := by decide +kernel
theorem dX2_countPasses_22 : decode cX2_countPasses 22 = .ok (.aload_n 0, 1) := by decide +kernel
theorem dX2_countPasses_23 : decode cX2_countPasses 23 = .ok (.getfield 20, 3) := by decide +kernel
theorem dX2_countPasses_26 : decode cX2_countPasses 26 = .ok (.irem, 1) := by decide +kernel
theorem dX2_countPasses_27 : decode cX2_countPasses 27 = .ok (.ifCond .eq 5, 3) := by decide +kernel
theorem dX2_countPasses_30 : decode cX2_countPasses 30 = .ok (.iconst 0, 1) := by decide +kernel
theorem dX2_countPasses_31 : decode cX2_countPasses 31 = .ok (.ireturn, 1) := by decide +kernel
theorem dX2_countPasses_32 : decode cX2_countPasses 32 = .ok (.aload_n 0, 1) := by decide +kernel
theorem dX2_countPasses_33 : decode cX2_countPasses 33 = .ok (.dup, 1) := by decide +kernel
theorem dX2_countPasses_34 : decode cX2_countPasses 34 = .ok (.getfield 31, 3) := by decide +kernel
theorem dX2_countPasses_37 : decode cX2_countPasses 37 = .ok (.iconst 1, 1) := by decide +kernel
theorem dX2_countPasses_38 : decode cX2_countPasses 38 = .ok (.iadd, 1) := by decide +kernel
theorem dX2_countPasses_39 : decode cX2_countPasses 39 = .ok (.putfield 31, 3) := by decide +kernel
theorem dX2_countPasses_42 : decode cX2_countPasses 42 = .ok (.iconst 1, 1) := by decide +kernel
theorem dX2_countPasses_43 : decode cX2_countPasses 43 = .ok (.ireturn, 1) := by decide +kernel
theorem dX2_credit_0 : decode cX2_credit 0 = .ok (.aload_n 0, 1) := by decide +kernel
theorem dX2_credit_1 : decode cX2_credit 1 = .ok (.dup, 1) := by decide +kernel
theorem dX2_credit_2 : decode cX2_credit 2 = .ok (.getfield 34, 3) := by decide +kernel
theorem dX2_credit_5 : decode cX2_credit 5 = .ok (.iconst 1, 1) := by decide +kernel
theorem dX2_credit_6 : decode cX2_credit 6 = .ok (.iadd, 1) := by decide +kernel
theorem dX2_credit_7 : decode cX2_credit 7 = .ok (.putfield 34, 3) := by decide +kernel
theorem dX2_credit_10 : decode cX2_credit 10 = .ok (.iload_n 1, 1) := by decide +kernel
theorem dX2_credit_11 : decode cX2_credit 11 = .ok (.ifCond .eq 13, 3) := by decide +kernel
theorem dX2_credit_14 : decode cX2_credit 14 = .ok (.aload_n 0, 1) := by decide +kernel
theorem dX2_credit_15 : decode cX2_credit 15 = .ok (.dup, 1) := by decide +kernel
theorem dX2_credit_16 : decode cX2_credit 16 = .ok (.getfield 37, 3) := by decide +kernel
theorem dX2_credit_19 : decode cX2_credit 19 = .ok (.iconst 1, 1) := by decide +kernel
theorem dX2_credit_20 : decode cX2_credit 20 = .ok (.iadd, 1) := by decide +kernel
theorem dX2_credit_21 : decode cX2_credit 21 = .ok (.putfield 37, 3) := by decide +kernel
theorem dX2_credit_24 : decode cX2_credit 24 = .ok (.return_, 1) := by decide +kernel
theorem dX2_forget_0 : decode cX2_forget 0 = .ok (.aload_n 0, 1) := by decide +kernel
theorem dX2_forget_1 : decode cX2_forget 1 = .ok (.iconst 0, 1) := by decide +kernel
theorem dX2_forget_2 : decode cX2_forget 2 = .ok (.putfield 28, 3) := by decide +kernel
theorem dX2_forget_5 : decode cX2_forget 5 = .ok (.aload_n 0, 1) := by decide +kernel
theorem dX2_forget_6 : decode cX2_forget 6 = .ok (.iconst 0, 1) := by decide +kernel
theorem dX2_forget_7 : decode cX2_forget 7 = .ok (.putfield 31, 3) := by decide +kernel
theorem dX2_forget_10 : decode cX2_forget 10 = .ok (.aload_n 0, 1) := by decide +kernel
theorem dX2_forget_11 : decode cX2_forget 11 = .ok (.iconst 0, 1) := by decide +kernel
theorem dX2_forget_12 : decode cX2_forget 12 = .ok (.putfield 34, 3) := by decide +kernel
theorem dX2_forget_15 : decode cX2_forget 15 = .ok (.aload_n 0, 1) := by decide +kernel
theorem dX2_forget_16 : decode cX2_forget 16 = .ok (.iconst 0, 1) := by decide +kernel
theorem dX2_forget_17 : decode cX2_forget 17 = .ok (.putfield 37, 3) := by decide +kernel
theorem dX2_forget_20 : decode cX2_forget 20 = .ok (.return_, 1) := by decide +kernel
theorem dX3_init_0 : decode cX3_init 0 = .ok (.aload_n 0, 1) := by decide +kernel
theorem dX3_init_1 : decode cX3_init 1 = .ok (.invokespecial 3, 3) := by decide +kernel
theorem dX3_init_4 : decode cX3_init 4 = .ok (.aload_n 0, 1) := by decide +kernel
theorem dX3_init_5 : decode cX3_init 5 = .ok (.iconst 5, 1) := by decide +kernel
theorem dX3_init_6 : decode cX3_init 6 = .ok (.newarray .int, 2) := by decide +kernel
theorem dX3_init_8 : decode cX3_init 8 = .ok (.putfield 9, 3) := by decide +kernel
theorem dX3_init_11 : decode cX3_init 11 = .ok (.aload_n 0, 1) := by decide +kernel
theorem dX3_init_12 : decode cX3_init 12 = .ok (.new 15, 3) := by decide +kernel
theorem dX3_init_15 : decode cX3_init 15 = .ok (.dup, 1) := by decide +kernel
theorem dX3_init_16 : decode cX3_init 16 = .ok (.invokespecial 17, 3) := by decide +kernel
theorem dX3_init_19 : decode cX3_init 19 = .ok (.putfield 18, 3) := by decide +kernel
theorem dX3_init_22 : decode cX3_init 22 = .ok (.aload_n 0, 1) := by decide +kernel
theorem dX3_init_23 : decode cX3_init 23 = .ok (.new 22, 3) := by decide +kernel
theorem dX3_init_26 : decode cX3_init 26 = .ok (.dup, 1) := by decide +kernel
theorem dX3_init_27 : decode cX3_init 27 = .ok (.invokespecial 24, 3) := by decide +kernel
theorem dX3_init_30 : decode cX3_init 30 = .ok (.putfield 25, 3) := by decide +kernel
theorem dX3_init_33 : decode cX3_init 33 = .ok (.return_, 1) := by decide +kernel
theorem dX3_see_0 : decode cX3_see 0 = .ok (.aload_n 0, 1) := by decide +kernel
theorem dX3_see_1 : decode cX3_see 1 = .ok (.iconst 0, 1) := by decide +kernel
theorem dX3_see_2 : decode cX3_see 2 = .ok (.putfield 29, 3) := by decide +kernel
theorem dX3_see_5 : decode cX3_see 5 = .ok (.iconst 0, 1) := by decide +kernel
theorem dX3_see_6 : decode cX3_see 6 = .ok (.istore 4, 2) := by decide +kernel
theorem dX3_see_8 : decode cX3_see 8 = .ok (.iload 4, 2) := by decide +kernel
theorem dX3_see_10 : decode cX3_see 10 = .ok (.iconst 5, 1) := by decide +kernel
theorem dX3_see_11 : decode cX3_see 11 = .ok (.if_icmp .ge 54, 3) := by decide +kernel
theorem dX3_see_14 : decode cX3_see 14 = .ok (.aload_n 0, 1) := by decide +kernel
theorem dX3_see_15 : decode cX3_see 15 = .ok (.getfield 9, 3) := by decide +kernel
theorem dX3_see_18 : decode cX3_see 18 = .ok (.iload 4, 2) := by decide +kernel
theorem dX3_see_20 : decode cX3_see 20 = .ok (.aload_n 1, 1) := by decide +kernel
theorem dX3_see_21 : decode cX3_see 21 = .ok (.iload 4, 2) := by decide +kernel
theorem dX3_see_23 : decode cX3_see 23 = .ok (.iaload, 1) := by decide +kernel
theorem dX3_see_24 : decode cX3_see 24 = .ok (.aload_n 2, 1) := by decide +kernel
theorem dX3_see_25 : decode cX3_see 25 = .ok (.iload 4, 2) := by decide +kernel
theorem dX3_see_27 : decode cX3_see 27 = .ok (.iaload, 1) := by decide +kernel
theorem dX3_see_28 : decode cX3_see 28 = .ok (.iconst (-1), 1) := by decide +kernel
theorem dX3_see_29 : decode cX3_see 29 = .ok (.ixor, 1) := by decide +kernel
theorem dX3_see_30 : decode cX3_see 30 = .ok (.iand, 1) := by decide +kernel
theorem dX3_see_31 : decode cX3_see 31 = .ok (.aload_n 3, 1) := by decide +kernel
theorem dX3_see_32 : decode cX3_see 32 = .ok (.iload 4, 2) := by decide +kernel
theorem dX3_see_34 : decode cX3_see 34 = .ok (.iaload, 1) := by decide +kernel
theorem dX3_see_35 : decode cX3_see 35 = .ok (.iconst (-1), 1) := by decide +kernel
theorem dX3_see_36 : decode cX3_see 36 = .ok (.ixor, 1) := by decide +kernel
theorem dX3_see_37 : decode cX3_see 37 = .ok (.iand, 1) := by decide +kernel
theorem dX3_see_38 : decode cX3_see 38 = .ok (.iastore, 1) := by decide +kernel
theorem dX3_see_39 : decode cX3_see 39 = .ok (.aload_n 0, 1) := by decide +kernel
theorem dX3_see_40 : decode cX3_see 40 = .ok (.getfield 9, 3) := by decide +kernel
theorem dX3_see_43 : decode cX3_see 43 = .ok (.iload 4, 2) := by decide +kernel
theorem dX3_see_45 : decode cX3_see 45 = .ok (.iaload, 1) := by decide +kernel
theorem dX3_see_46 : decode cX3_see 46 = .ok (.ifCond .eq 13, 3) := by decide +kernel
theorem dX3_see_49 : decode cX3_see 49 = .ok (.aload_n 0, 1) := by decide +kernel
theorem dX3_see_50 : decode cX3_see 50 = .ok (.dup, 1) := by decide +kernel
theorem dX3_see_51 : decode cX3_see 51 = .ok (.getfield 29, 3) := by decide +kernel
theorem dX3_see_54 : decode cX3_see 54 = .ok (.iconst 1, 1) := by decide +kernel
theorem dX3_see_55 : decode cX3_see 55 = .ok (.iadd, 1) := by decide +kernel
theorem dX3_see_56 : decode cX3_see 56 = .ok (.putfield 29, 3) := by decide +kernel
theorem dX3_see_59 : decode cX3_see 59 = .ok (.iinc 4 1, 3) := by decide +kernel
theorem dX3_see_62 : decode cX3_see 62 = .ok (.goto (-54), 3) := by decide +kernel
theorem dX3_see_65 : decode cX3_see 65 = .ok (.aload_n 0, 1) := by decide +kernel
theorem dX3_see_66 : decode cX3_see 66 = .ok (.aload_n 0, 1) := by decide +kernel
theorem dX3_see_67 : decode cX3_see 67 = .ok (.getfield 9, 3) := by decide +kernel
theorem dX3_see_70 : decode cX3_see 70 = .ok (.invokestatic 33, 3) := by decide +kernel
theorem dX3_see_73 : decode cX3_see 73 = .ok (.putfield 37, 3) := by decide +kernel
theorem dX3_see_76 : decode cX3_see 76 = .ok (.return_, 1) := by decide +kernel
theorem dX3_light_0 : decode cX3_light 0 = .ok (.aload_n 0, 1) := by decide +kernel
theorem dX3_light_1 : decode cX3_light 1 = .ok (.iconst 0, 1) := by decide +kernel
theorem dX3_light_2 : decode cX3_light 2 = .ok (.putfield 40, 3) := by decide +kernel
theorem dX3_light_5 : decode cX3_light 5 = .ok (.iconst 0, 1) := by decide +kernel
theorem dX3_light_6 : decode cX3_light 6 = .ok (.istore_n 2, 1) := by decide +kernel
theorem dX3_light_7 : decode cX3_light 7 = .ok (.iload_n 2, 1) := by decide +kernel
theorem dX3_light_8 : decode cX3_light 8 = .ok (.aload_n 1, 1) := by decide +kernel
theorem dX3_light_9 : decode cX3_light 9 = .ok (.invokeinterface 43 1, 5) := by decide +kernel
theorem dX3_light_14 : decode cX3_light 14 = .ok (.if_icmp .ge 41, 3) := by decide +kernel
theorem dX3_light_17 : decode cX3_light 17 = .ok (.aload_n 1, 1) := by decide +kernel
theorem dX3_light_18 : decode cX3_light 18 = .ok (.iload_n 2, 1) := by decide +kernel
theorem dX3_light_19 : decode cX3_light 19 = .ok (.invokeinterface 49 2, 5) := by decide +kernel
theorem dX3_light_24 : decode cX3_light 24 = .ok (.checkcast 53, 3) := by decide +kernel
theorem dX3_light_27 : decode cX3_light 27 = .ok (.aload_n 0, 1) := by decide +kernel
theorem dX3_light_28 : decode cX3_light 28 = .ok (.getfield 9, 3) := by decide +kernel
theorem dX3_light_31 : decode cX3_light 31 = .ok (.invokevirtual 55, 3) := by decide +kernel
theorem dX3_light_34 : decode cX3_light 34 = .ok (.ifCond .eq 15, 3) := by decide +kernel
theorem dX3_light_37 : decode cX3_light 37 = .ok (.aload_n 0, 1) := by decide +kernel
theorem dX3_light_38 : decode cX3_light 38 = .ok (.dup, 1) := by decide +kernel
theorem dX3_light_39 : decode cX3_light 39 = .ok (.getfield 40, 3) := by decide +kernel
theorem dX3_light_42 : decode cX3_light 42 = .ok (.iconst 1, 1) := by decide +kernel
theorem dX3_light_43 : decode cX3_light 43 = .ok (.iload_n 2, 1) := by decide +kernel
theorem dX3_light_44 : decode cX3_light 44 = .ok (.ishl, 1) := by decide +kernel
theorem dX3_light_45 : decode cX3_light 45 = .ok (.ior, 1) := by decide +kernel
theorem dX3_light_46 : decode cX3_light 46 = .ok (.putfield 40, 3) := by decide +kernel
theorem dX3_light_49 : decode cX3_light 49 = .ok (.iinc 2 1, 3) := by decide +kernel
theorem dX3_light_52 : decode cX3_light 52 = .ok (.goto (-45), 3) := by decide +kernel
theorem dX3_light_55 : decode cX3_light 55 = .ok (.return_, 1) := by decide +kernel
theorem dX3_fitAlong_0 : decode cX3_fitAlong 0 = .ok (.aload_n 1, 1) := by decide +kernel
theorem dX3_fitAlong_1 : decode cX3_fitAlong 1 = .ok (.aload_n 0, 1) := by decide +kernel
theorem dX3_fitAlong_2 : decode cX3_fitAlong 2 = .ok (.getfield 9, 3) := by decide +kernel
theorem dX3_fitAlong_5 : decode cX3_fitAlong 5 = .ok (.invokevirtual 55, 3) := by decide +kernel
theorem dX3_fitAlong_8 : decode cX3_fitAlong 8 = .ok (.ifCond .ne 5, 3) := by decide +kernel
theorem dX3_fitAlong_11 : decode cX3_fitAlong 11 = .ok (.iconst 0, 1) := by decide +kernel
theorem dX3_fitAlong_12 : decode cX3_fitAlong 12 = .ok (.ireturn, 1) := by decide +kernel
theorem dX3_fitAlong_13 : decode cX3_fitAlong 13 = .ok (.aload_n 0, 1) := by decide +kernel
theorem dX3_fitAlong_14 : decode cX3_fitAlong 14 = .ok (.getfield 18, 3) := by decide +kernel
theorem dX3_fitAlong_17 : decode cX3_fitAlong 17 = .ok (.aload_n 1, 1) := by decide +kernel
theorem dX3_fitAlong_18 : decode cX3_fitAlong 18 = .ok (.aload_n 0, 1) := by decide +kernel
theorem dX3_fitAlong_19 : decode cX3_fitAlong 19 = .ok (.getfield 9, 3) := by decide +kernel
theorem dX3_fitAlong_22 : decode cX3_fitAlong 22 = .ok (.invokevirtual 59, 3) := by decide +kernel
theorem dX3_fitAlong_25 : decode cX3_fitAlong 25 = .ok (.iconst 1, 1) := by decide +kernel
theorem dX3_fitAlong_26 : decode cX3_fitAlong 26 = .ok (.ireturn, 1) := by decide +kernel
theorem dX3_pile_0 : decode cX3_pile 0 = .ok (.aload_n 0, 1) := by decide +kernel
theorem dX3_pile_1 : decode cX3_pile 1 = .ok (.getfield 25, 3) := by decide +kernel
theorem dX3_pile_4 : decode cX3_pile 4 = .ok (.invokevirtual 63, 3) := by decide +kernel
theorem dX3_pile_7 : decode cX3_pile 7 = .ok (.iconst 0, 1) := by decide +kernel
theorem dX3_pile_8 : decode cX3_pile 8 = .ok (.istore_n 2, 1) := by decide +kernel
theorem dX3_pile_9 : decode cX3_pile 9 = .ok (.iload_n 2, 1) := by decide +kernel
theorem dX3_pile_10 : decode cX3_pile 10 = .ok (.aload_n 1, 1) := by decide +kernel
theorem dX3_pile_11 : decode cX3_pile 11 = .ok (.invokeinterface 43 1, 5) := by decide +kernel
theorem dX3_pile_16 : decode cX3_pile 16 = .ok (.if_icmp .ge 63, 3) := by decide +kernel
theorem dX3_pile_19 : decode cX3_pile 19 = .ok (.iconst 0, 1) := by decide +kernel
theorem dX3_pile_20 : decode cX3_pile 20 = .ok (.istore_n 3, 1) := by decide +kernel
theorem dX3_pile_21 : decode cX3_pile 21 = .ok (.aload_n 0, 1) := by decide +kernel
theorem dX3_pile_22 : decode cX3_pile 22 = .ok (.iload_n 2, 1) := by decide +kernel
theorem dX3_pile_23 : decode cX3_pile 23 = .ok (.invokevirtual 66, 3) := by decide +kernel
theorem dX3_pile_26 : decode cX3_pile 26 = .ok (.ifCond .eq 32, 3) := by decide +kernel
theorem dX3_pile_29 : decode cX3_pile 29 = .ok (.aload_n 0, 1) := by decide +kernel
theorem dX3_pile_30 : decode cX3_pile 30 = .ok (.getfield 18, 3) := by decide +kernel
theorem dX3_pile_33 : decode cX3_pile 33 = .ok (.aload_n 1, 1) := by decide +kernel
theorem dX3_pile_34 : decode cX3_pile 34 = .ok (.iload_n 2, 1) := by decide +kernel
theorem dX3_pile_35 : decode cX3_pile 35 = .ok (.invokeinterface 49 2, 5) := by decide +kernel
theorem dX3_pile_40 : decode cX3_pile 40 = .ok (.checkcast 53, 3) := by decide +kernel
theorem dX3_pile_43 : decode cX3_pile 43 = .ok (.aload_n 0, 1) := by decide +kernel
theorem dX3_pile_44 : decode cX3_pile 44 = .ok (.getfield 9, 3) := by decide +kernel
theorem dX3_pile_47 : decode cX3_pile 47 = .ok (.invokevirtual 59, 3) := by decide +kernel
theorem dX3_pile_50 : decode cX3_pile 50 = .ok (.aload_n 0, 1) := by decide +kernel
theorem dX3_pile_51 : decode cX3_pile 51 = .ok (.getfield 18, 3) := by decide +kernel
theorem dX3_pile_54 : decode cX3_pile 54 = .ok (.invokevirtual 69, 3) := by decide +kernel
theorem dX3_pile_57 : decode cX3_pile 57 = .ok (.istore_n 3, 1) := by decide +kernel
theorem dX3_pile_58 : decode cX3_pile 58 = .ok (.aload_n 0, 1) := by decide +kernel
theorem dX3_pile_59 : decode cX3_pile 59 = .ok (.getfield 25, 3) := by decide +kernel
theorem dX3_pile_62 : decode cX3_pile 62 = .ok (.iload_n 3, 1) := by decide +kernel
theorem dX3_pile_63 : decode cX3_pile 63 = .ok (.aload_n 0, 1) := by decide +kernel
theorem dX3_pile_64 : decode cX3_pile 64 = .ok (.getfield 18, 3) := by decide +kernel
theorem dX3_pile_67 : decode cX3_pile 67 = .ok (.getfield 72, 3) := by decide +kernel
theorem dX3_pile_70 : decode cX3_pile 70 = .ok (.invokevirtual 75, 3) := by decide +kernel
theorem dX3_pile_73 : decode cX3_pile 73 = .ok (.iinc 2 1, 3) := by decide +kernel
theorem dX3_pile_76 : decode cX3_pile 76 = .ok (.goto (-67), 3) := by decide +kernel
theorem dX3_pile_79 : decode cX3_pile 79 = .ok (.aload_n 0, 1) := by decide +kernel
theorem dX3_pile_80 : decode cX3_pile 80 = .ok (.getfield 25, 3) := by decide +kernel
theorem dX3_pile_83 : decode cX3_pile 83 = .ok (.invokevirtual 79, 3) := by decide +kernel
theorem dX3_pile_86 : decode cX3_pile 86 = .ok (.return_, 1) := by decide +kernel
theorem dX3_isLit_0 : decode cX3_isLit 0 = .ok (.iload_n 1, 1) := by decide +kernel
theorem dX3_isLit_1 : decode cX3_isLit 1 = .ok (.ifCond .lt 25, 3) := by decide +kernel
theorem dX3_isLit_4 : decode cX3_isLit 4 = .ok (.iload_n 1, 1) := by decide +kernel
theorem dX3_isLit_5 : decode cX3_isLit 5 = .ok (.bipush 12, 2) := by decide +kernel
theorem dX3_isLit_7 : decode cX3_isLit 7 = .ok (.if_icmp .ge 19, 3) := by decide +kernel
theorem dX3_isLit_10 : decode cX3_isLit 10 = .ok (.aload_n 0, 1) := by decide +kernel
theorem dX3_isLit_11 : decode cX3_isLit 11 = .ok (.getfield 40, 3) := by decide +kernel
theorem dX3_isLit_14 : decode cX3_isLit 14 = .ok (.iload_n 1, 1) := by decide +kernel
theorem dX3_isLit_15 : decode cX3_isLit 15 = .ok (.ishr, 1) := by decide +kernel
theorem dX3_isLit_16 : decode cX3_isLit 16 = .ok (.iconst 1, 1) := by decide +kernel
theorem dX3_isLit_17 : decode cX3_isLit 17 = .ok (.iand, 1) := by decide +kernel
theorem dX3_isLit_18 : decode cX3_isLit 18 = .ok (.iconst 1, 1) := by decide +kernel
theorem dX3_isLit_19 : decode cX3_isLit 19 = .ok (.if_icmp .ne 7, 3) := by decide +kernel
theorem dX3_isLit_22 : decode cX3_isLit 22 = .ok (.iconst 1, 1) := by decide +kernel
theorem dX3_isLit_23 : decode cX3_isLit 23 = .ok (.goto 4, 3) := by decide +kernel
theorem dX3_isLit_26 : decode cX3_isLit 26 = .ok (.iconst 0, 1) := by decide +kernel
theorem dX3_isLit_27 : decode cX3_isLit 27 = .ok (.ireturn, 1) := by decide +kernel
theorem dX3_answers_0 : decode cX3_answers 0 = .ok (.iload_n 1, 1) := by decide +kernel
theorem dX3_answers_1 : decode cX3_answers 1 = .ok (.lookupswitch 108 #[(104, 63), (108, 94), (116, 43), (119, 77)], 43) := by decide +kernel
theorem dX3_answers_44 : decode cX3_answers 44 = .ok (.aload_n 0, 1) := by decide +kernel
theorem dX3_answers_45 : decode cX3_answers 45 = .ok (.getfield 25, 3) := by decide +kernel
theorem dX3_answers_48 : decode cX3_answers 48 = .ok (.getfield 82, 3) := by decide +kernel
theorem dX3_answers_51 : decode cX3_answers 51 = .ok (.invokestatic 85, 3) := by decide +kernel
theorem dX3_answers_54 : decode cX3_answers 54 = .ok (.iload_n 2, 1) := by decide +kernel
theorem dX3_answers_55 : decode cX3_answers 55 = .ok (.if_icmp .lt 7, 3) := by decide +kernel
theorem dX3_answers_58 : decode cX3_answers 58 = .ok (.iconst 1, 1) := by decide +kernel
theorem dX3_answers_59 : decode cX3_answers 59 = .ok (.goto 4, 3) := by decide +kernel
theorem dX3_answers_62 : decode cX3_answers 62 = .ok (.iconst 0, 1) := by decide +kernel
theorem dX3_answers_63 : decode cX3_answers 63 = .ok (.ireturn, 1) := by decide +kernel
theorem dX3_answers_64 : decode cX3_answers 64 = .ok (.aload_n 0, 1) := by decide +kernel
theorem dX3_answers_65 : decode cX3_answers 65 = .ok (.getfield 37, 3) := by decide +kernel
theorem dX3_answers_68 : decode cX3_answers 68 = .ok (.iload_n 2, 1) := by decide +kernel
theorem dX3_answers_69 : decode cX3_answers 69 = .ok (.if_icmp .lt 7, 3) := by decide +kernel
theorem dX3_answers_72 : decode cX3_answers 72 = .ok (.iconst 1, 1) := by decide +kernel
theorem dX3_answers_73 : decode cX3_answers 73 = .ok (.goto 4, 3) := by decide +kernel
theorem dX3_answers_76 : decode cX3_answers 76 = .ok (.iconst 0, 1) := by decide +kernel
theorem dX3_answers_77 : decode cX3_answers 77 = .ok (.ireturn, 1) := by decide +kernel
theorem dX3_answers_78 : decode cX3_answers 78 = .ok (.aload_n 0, 1) := by decide +kernel
theorem dX3_answers_79 : decode cX3_answers 79 = .ok (.getfield 25, 3) := by decide +kernel
theorem dX3_answers_82 : decode cX3_answers 82 = .ok (.getfield 91, 3) := by decide +kernel
theorem dX3_answers_85 : decode cX3_answers 85 = .ok (.iload_n 2, 1) := by decide +kernel
theorem dX3_answers_86 : decode cX3_answers 86 = .ok (.if_icmp .lt 7, 3) := by decide +kernel
theorem dX3_answers_89 : decode cX3_answers 89 = .ok (.iconst 1, 1) := by decide +kernel
theorem dX3_answers_90 : decode cX3_answers 90 = .ok (.goto 4, 3) := by decide +kernel
theorem dX3_answers_93 : decode cX3_answers 93 = .ok (.iconst 0, 1) := by decide +kernel
theorem dX3_answers_94 : decode cX3_answers 94 = .ok (.ireturn, 1) := by decide +kernel
theorem dX3_answers_95 : decode cX3_answers 95 = .ok (.aload_n 0, 1) := by decide +kernel
theorem dX3_answers_96 : decode cX3_answers 96 = .ok (.getfield 29, 3) := by decide +kernel
theorem dX3_answers_99 : decode cX3_answers 99 = .ok (.iload_n 2, 1) := by decide +kernel
theorem dX3_answers_100 : decode cX3_answers 100 = .ok (.if_icmp .lt 7, 3) := by decide +kernel
theorem dX3_answers_103 : decode cX3_answers 103 = .ok (.iconst 1, 1) := by decide +kernel
theorem dX3_answers_104 : decode cX3_answers 104 = .ok (.goto 4, 3) := by decide +kernel
theorem dX3_answers_107 : decode cX3_answers 107 = .ok (.iconst 0, 1) := by decide +kernel
theorem dX3_answers_108 : decode cX3_answers 108 = .ok (.ireturn, 1) := by decide +kernel
theorem dX3_answers_109 : decode cX3_answers 109 = .ok (.aload_n 0, 1) := by decide +kernel
theorem dX3_answers_110 : decode cX3_answers 110 = .ok (.iload_n 2, 1) := by decide +kernel
theorem dX3_answers_111 : decode cX3_answers 111 = .ok (.invokevirtual 66, 3) := by decide +kernel
theorem dX3_answers_114 : decode cX3_answers 114 = .ok (.ireturn, 1) := by decide +kernel
theorem dX4_init_0 : decode cX4_init 0 = .ok (.aload_n 0, 1) := by decide +kernel
theorem dX4_init_1 : decode cX4_init 1 = .ok (.invokespecial 3, 3) := by decide +kernel
theorem dX4_init_4 : decode cX4_init 4 = .ok (.aload_n 0, 1) := by decide +kernel
theorem dX4_init_5 : decode cX4_init 5 = .ok (.bipush 30, 2) := by decide +kernel
theorem dX4_init_7 : decode cX4_init 7 = .ok (.newarray .int, 2) := by decide +kernel
theorem dX4_init_9 : decode cX4_init 9 = .ok (.putfield 9, 3) := by decide +kernel
theorem dX4_init_12 : decode cX4_init 12 = .ok (.aload_n 0, 1) := by decide +kernel
theorem dX4_init_13 : decode cX4_init 13 = .ok (.bipush 30, 2) := by decide +kernel
theorem dX4_init_15 : decode cX4_init 15 = .ok (.newarray .int, 2) := by decide +kernel
theorem dX4_init_17 : decode cX4_init 17 = .ok (.putfield 15, 3) := by decide +kernel
theorem dX4_init_20 : decode cX4_init 20 = .ok (.aload_n 0, 1) := by decide +kernel
theorem dX4_init_21 : decode cX4_init 21 = .ok (.sipush 150, 3) := by decide +kernel
theorem dX4_init_24 : decode cX4_init 24 = .ok (.newarray .int, 2) := by decide +kernel
theorem dX4_init_26 : decode cX4_init 26 = .ok (.putfield 18, 3) := by decide +kernel
theorem dX4_init_29 : decode cX4_init 29 = .ok (.return_, 1) := by decide +kernel
theorem dX4_size_0 : decode cX4_size 0 = .ok (.aload_n 0, 1) := by decide +kernel
theorem dX4_size_1 : decode cX4_size 1 = .ok (.getfield 21, 3) := by decide +kernel
theorem dX4_size_4 : decode cX4_size 4 = .ok (.bipush 30, 2) := by decide +kernel
theorem dX4_size_6 : decode cX4_size 6 = .ok (.invokestatic 25, 3) := by decide +kernel
theorem dX4_size_9 : decode cX4_size 9 = .ok (.ireturn, 1) := by decide +kernel
theorem dX4_has_0 : decode cX4_has 0 = .ok (.iload_n 1, 1) := by decide +kernel
theorem dX4_has_1 : decode cX4_has 1 = .ok (.ifCond .lt 15, 3) := by decide +kernel
theorem dX4_has_4 : decode cX4_has 4 = .ok (.iload_n 1, 1) := by decide +kernel
theorem dX4_has_5 : decode cX4_has 5 = .ok (.aload_n 0, 1) := by decide +kernel
theorem dX4_has_6 : decode cX4_has 6 = .ok (.invokevirtual 31, 3) := by decide +kernel
theorem dX4_has_9 : decode cX4_has 9 = .ok (.if_icmp .ge 7, 3) := by decide +kernel
theorem dX4_has_12 : decode cX4_has 12 = .ok (.iconst 1, 1) := by decide +kernel
theorem dX4_has_13 : decode cX4_has 13 = .ok (.goto 4, 3) := by decide +kernel
theorem dX4_has_16 : decode cX4_has 16 = .ok (.iconst 0, 1) := by decide +kernel
theorem dX4_has_17 : decode cX4_has 17 = .ok (.ireturn, 1) := by decide +kernel
theorem dX4_slotOf_0 : decode cX4_slotOf 0 = .ok (.aload_n 0, 1) := by decide +kernel
theorem dX4_slotOf_1 : decode cX4_slotOf 1 = .ok (.getfield 21, 3) := by decide +kernel
theorem dX4_slotOf_4 : decode cX4_slotOf 4 = .ok (.iconst 1, 1) := by decide +kernel
theorem dX4_slotOf_5 : decode cX4_slotOf 5 = .ok (.isub, 1) := by decide +kernel
theorem dX4_slotOf_6 : decode cX4_slotOf 6 = .ok (.iload_n 1, 1) := by decide +kernel
theorem dX4_slotOf_7 : decode cX4_slotOf 7 = .ok (.isub, 1) := by decide +kernel
theorem dX4_slotOf_8 : decode cX4_slotOf 8 = .ok (.bipush 30, 2) := by decide +kernel
theorem dX4_slotOf_10 : decode cX4_slotOf 10 = .ok (.invokestatic 35, 3) := by decide +kernel
theorem dX4_slotOf_13 : decode cX4_slotOf 13 = .ok (.ireturn, 1) := by decide +kernel
theorem dX4_keep_0 : decode cX4_keep 0 = .ok (.aload_n 0, 1) := by decide +kernel
theorem dX4_keep_1 : decode cX4_keep 1 = .ok (.dup, 1) := by decide +kernel
theorem dX4_keep_2 : decode cX4_keep 2 = .ok (.getfield 21, 3) := by decide +kernel
theorem dX4_keep_5 : decode cX4_keep 5 = .ok (.iconst 1, 1) := by decide +kernel
theorem dX4_keep_6 : decode cX4_keep 6 = .ok (.iadd, 1) := by decide +kernel
theorem dX4_keep_7 : decode cX4_keep 7 = .ok (.putfield 21, 3) := by decide +kernel
theorem dX4_keep_10 : decode cX4_keep 10 = .ok (.aload_n 0, 1) := by decide +kernel
theorem dX4_keep_11 : decode cX4_keep 11 = .ok (.iconst 0, 1) := by decide +kernel
theorem dX4_keep_12 : decode cX4_keep 12 = .ok (.invokevirtual 38, 3) := by decide +kernel
theorem dX4_keep_15 : decode cX4_keep 15 = .ok (.istore 4, 2) := by decide +kernel
theorem dX4_keep_17 : decode cX4_keep 17 = .ok (.aload_n 0, 1) := by decide +kernel
theorem dX4_keep_18 : decode cX4_keep 18 = .ok (.getfield 9, 3) := by decide +kernel
theorem dX4_keep_21 : decode cX4_keep 21 = .ok (.iload 4, 2) := by decide +kernel
theorem dX4_keep_23 : decode cX4_keep 23 = .ok (.iload_n 1, 1) := by decide +kernel
theorem dX4_keep_24 : decode cX4_keep 24 = .ok (.iastore, 1) := by decide +kernel
theorem dX4_keep_25 : decode cX4_keep 25 = .ok (.aload_n 0, 1) := by decide +kernel
theorem dX4_keep_26 : decode cX4_keep 26 = .ok (.getfield 15, 3) := by decide +kernel
theorem dX4_keep_29 : decode cX4_keep 29 = .ok (.iload 4, 2) := by decide +kernel
theorem dX4_keep_31 : decode cX4_keep 31 = .ok (.iload_n 2, 1) := by decide +kernel
theorem dX4_keep_32 : decode cX4_keep 32 = .ok (.iastore, 1) := by decide +kernel
theorem dX4_keep_33 : decode cX4_keep 33 = .ok (.iconst 0, 1) := by decide +kernel
theorem dX4_keep_34 : decode cX4_keep 34 = .ok (.istore 5, 2) := by decide +kernel
theorem dX4_keep_36 : decode cX4_keep 36 = .ok (.iload 5, 2) := by decide +kernel
theorem dX4_keep_38 : decode cX4_keep 38 = .ok (.iconst 5, 1) := by decide +kernel
theorem dX4_keep_39 : decode cX4_keep 39 = .ok (.if_icmp .ge 25, 3) := by decide +kernel
theorem dX4_keep_42 : decode cX4_keep 42 = .ok (.aload_n 0, 1) := by decide +kernel
theorem dX4_keep_43 : decode cX4_keep 43 = .ok (.getfield 18, 3) := by decide +kernel
theorem dX4_keep_46 : decode cX4_keep 46 = .ok (.iload 4, 2) := by decide +kernel
theorem dX4_keep_48 : decode cX4_keep 48 = .ok (.iconst 5, 1) := by decide +kernel
theorem dX4_keep_49 : decode cX4_keep 49 = .ok (.imul, 1) := by decide +kernel
theorem dX4_keep_50 : decode cX4_keep 50 = .ok (.iload 5, 2) := by decide +kernel
theorem dX4_keep_52 : decode cX4_keep 52 = .ok (.iadd, 1) := by decide +kernel
theorem dX4_keep_53 : decode cX4_keep 53 = .ok (.aload_n 3, 1) := by decide +kernel
theorem dX4_keep_54 : decode cX4_keep 54 = .ok (.iload 5, 2) := by decide +kernel
theorem dX4_keep_56 : decode cX4_keep 56 = .ok (.iaload, 1) := by decide +kernel
theorem dX4_keep_57 : decode cX4_keep 57 = .ok (.iastore, 1) := by decide +kernel
theorem dX4_keep_58 : decode cX4_keep 58 = .ok (.iinc 5 1, 3) := by decide +kernel
theorem dX4_keep_61 : decode cX4_keep 61 = .ok (.goto (-25), 3) := by decide +kernel
theorem dX4_keep_64 : decode cX4_keep 64 = .ok (.return_, 1) := by decide +kernel
theorem dX4_numberOf_0 : decode cX4_numberOf 0 = .ok (.aload_n 0, 1) := by decide +kernel
theorem dX4_numberOf_1 : decode cX4_numberOf 1 = .ok (.getfield 9, 3) := by decide +kernel
theorem dX4_numberOf_4 : decode cX4_numberOf 4 = .ok (.aload_n 0, 1) := by decide +kernel
theorem dX4_numberOf_5 : decode cX4_numberOf 5 = .ok (.iload_n 1, 1) := by decide +kernel
theorem dX4_numberOf_6 : decode cX4_numberOf 6 = .ok (.invokevirtual 38, 3) := by decide +kernel
theorem dX4_numberOf_9 : decode cX4_numberOf 9 = .ok (.iaload, 1) := by decide +kernel
theorem dX4_numberOf_10 : decode cX4_numberOf 10 = .ok (.ireturn, 1) := by decide +kernel
theorem dX4_passedAt_0 : decode cX4_passedAt 0 = .ok (.aload_n 0, 1) := by decide +kernel
theorem dX4_passedAt_1 : decode cX4_passedAt 1 = .ok (.getfield 15, 3) := by decide +kernel
theorem dX4_passedAt_4 : decode cX4_passedAt 4 = .ok (.aload_n 0, 1) := by decide +kernel
theorem dX4_passedAt_5 : decode cX4_passedAt 5 = .ok (.iload_n 1, 1) := by decide +kernel
theorem dX4_passedAt_6 : decode cX4_passedAt 6 = .ok (.invokevirtual 38, 3) := by decide +kernel
theorem dX4_passedAt_9 : decode cX4_passedAt 9 = .ok (.iaload, 1) := by decide +kernel
theorem dX4_passedAt_10 : decode cX4_passedAt 10 = .ok (.ireturn, 1) := by decide +kernel
theorem dX4_copyHits_0 : decode cX4_copyHits 0 = .ok (.aload_n 0, 1) := by decide +kernel
theorem dX4_copyHits_1 : decode cX4_copyHits 1 = .ok (.iload_n 1, 1) := by decide +kernel
theorem dX4_copyHits_2 : decode cX4_copyHits 2 = .ok (.invokevirtual 38, 3) := by decide +kernel
theorem dX4_copyHits_5 : decode cX4_copyHits 5 = .ok (.istore_n 3, 1) := by decide +kernel
theorem dX4_copyHits_6 : decode cX4_copyHits 6 = .ok (.iconst 0, 1) := by decide +kernel
theorem dX4_copyHits_7 : decode cX4_copyHits 7 = .ok (.istore 4, 2) := by decide +kernel
theorem dX4_copyHits_9 : decode cX4_copyHits 9 = .ok (.iload 4, 2) := by decide +kernel
theorem dX4_copyHits_11 : decode cX4_copyHits 11 = .ok (.iconst 5, 1) := by decide +kernel
theorem dX4_copyHits_12 : decode cX4_copyHits 12 = .ok (.if_icmp .ge 24, 3) := by decide +kernel
theorem dX4_copyHits_15 : decode cX4_copyHits 15 = .ok (.aload_n 2, 1) := by decide +kernel
theorem dX4_copyHits_16 : decode cX4_copyHits 16 = .ok (.iload 4, 2) := by decide +kernel
theorem dX4_copyHits_18 : decode cX4_copyHits 18 = .ok (.aload_n 0, 1) := by decide +kernel
theorem dX4_copyHits_19 : decode cX4_copyHits 19 = .ok (.getfield 18, 3) := by decide +kernel
theorem dX4_copyHits_22 : decode cX4_copyHits 22 = .ok (.iload_n 3, 1) := by decide +kernel
theorem dX4_copyHits_23 : decode cX4_copyHits 23 = .ok (.iconst 5, 1) := by decide +kernel
theorem dX4_copyHits_24 : decode cX4_copyHits 24 = .ok (.imul, 1) := by decide +kernel
theorem dX4_copyHits_25 : decode cX4_copyHits 25 = .ok (.iload 4, 2) := by decide +kernel
theorem dX4_copyHits_27 : decode cX4_copyHits 27 = .ok (.iadd, 1) := by decide +kernel
theorem dX4_copyHits_28 : decode cX4_copyHits 28 = .ok (.iaload, 1) := by decide +kernel
theorem dX4_copyHits_29 : decode cX4_copyHits 29 = .ok (.iastore, 1) := by decide +kernel
theorem dX4_copyHits_30 : decode cX4_copyHits 30 = .ok (.iinc 4 1, 3) := by decide +kernel
theorem dX4_copyHits_33 : decode cX4_copyHits 33 = .ok (.goto (-24), 3) := by decide +kernel
theorem dX4_copyHits_36 : decode cX4_copyHits 36 = .ok (.return_, 1) := by decide +kernel
theorem dX5_init_0 : decode cX5_init 0 = .ok (.aload_n 0, 1) := by decide +kernel
theorem dX5_init_1 : decode cX5_init 1 = .ok (.invokespecial 3, 3) := by decide +kernel
theorem dX5_init_4 : decode cX5_init 4 = .ok (.return_, 1) := by decide +kernel
theorem dX5_read_0 : decode cX5_read 0 = .ok (.aload_n 0, 1) := by decide +kernel
theorem dX5_read_1 : decode cX5_read 1 = .ok (.aload_n 1, 1) := by decide +kernel
theorem dX5_read_2 : decode cX5_read 2 = .ok (.putfield 9, 3) := by decide +kernel
theorem dX5_read_5 : decode cX5_read 5 = .ok (.aload_n 0, 1) := by decide +kernel
theorem dX5_read_6 : decode cX5_read 6 = .ok (.aload_n 2, 1) := by decide +kernel
theorem dX5_read_7 : decode cX5_read 7 = .ok (.putfield 15, 3) := by decide +kernel
theorem dX5_read_10 : decode cX5_read 10 = .ok (.aload_n 0, 1) := by decide +kernel
theorem dX5_read_11 : decode cX5_read 11 = .ok (.iconst 0, 1) := by decide +kernel
theorem dX5_read_12 : decode cX5_read 12 = .ok (.putfield 19, 3) := by decide +kernel
theorem dX5_read_15 : decode cX5_read 15 = .ok (.aload_n 0, 1) := by decide +kernel
theorem dX5_read_16 : decode cX5_read 16 = .ok (.iconst (-1), 1) := by decide +kernel
theorem dX5_read_17 : decode cX5_read 17 = .ok (.putfield 23, 3) := by decide +kernel
theorem dX5_read_20 : decode cX5_read 20 = .ok (.aload_n 0, 1) := by decide +kernel
theorem dX5_read_21 : decode cX5_read 21 = .ok (.iconst 0, 1) := by decide +kernel
theorem dX5_read_22 : decode cX5_read 22 = .ok (.invokevirtual 26, 3) := by decide +kernel
theorem dX5_read_25 : decode cX5_read 25 = .ok (.istore_n 3, 1) := by decide +kernel
theorem dX5_read_26 : decode cX5_read 26 = .ok (.aload_n 0, 1) := by decide +kernel
theorem dX5_read_27 : decode cX5_read 27 = .ok (.getfield 19, 3) := by decide +kernel
theorem dX5_read_30 : decode cX5_read 30 = .ok (.aload_n 0, 1) := by decide +kernel
theorem dX5_read_31 : decode cX5_read 31 = .ok (.getfield 9, 3) := by decide +kernel
theorem dX5_read_34 : decode cX5_read 34 = .ok (.getfield 30, 3) := by decide +kernel
theorem dX5_read_37 : decode cX5_read 37 = .ok (.if_icmp .ge 8, 3) := by decide +kernel
theorem dX5_read_40 : decode cX5_read 40 = .ok (.aload_n 0, 1) := by decide +kernel
theorem dX5_read_41 : decode cX5_read 41 = .ok (.invokevirtual 35, 3) := by decide +kernel
theorem dX5_read_44 : decode cX5_read 44 = .ok (.pop, 1) := by decide +kernel
theorem dX5_read_45 : decode cX5_read 45 = .ok (.iload_n 3, 1) := by decide +kernel
theorem dX5_read_46 : decode cX5_read 46 = .ok (.ireturn, 1) := by decide +kernel
theorem dX5_readAny_0 : decode cX5_readAny 0 = .ok (.aload_n 0, 1) := by decide +kernel
theorem dX5_readAny_1 : decode cX5_readAny 1 = .ok (.iload_n 1, 1) := by decide +kernel
theorem dX5_readAny_2 : decode cX5_readAny 2 = .ok (.invokevirtual 39, 3) := by decide +kernel
theorem dX5_readAny_5 : decode cX5_readAny 5 = .ok (.istore_n 2, 1) := by decide +kernel
theorem dX5_readAny_6 : decode cX5_readAny 6 = .ok (.iconst 0, 1) := by decide +kernel
theorem dX5_readAny_7 : decode cX5_readAny 7 = .ok (.istore_n 3, 1) := by decide +kernel
theorem dX5_readAny_8 : decode cX5_readAny 8 = .ok (.iload_n 3, 1) := by decide +kernel
theorem dX5_readAny_9 : decode cX5_readAny 9 = .ok (.bipush 60, 2) := by decide +kernel
theorem dX5_readAny_11 : decode cX5_readAny 11 = .ok (.if_icmp .ge 40, 3) := by decide +kernel
theorem dX5_readAny_14 : decode cX5_readAny 14 = .ok (.aload_n 0, 1) := by decide +kernel
theorem dX5_readAny_15 : decode cX5_readAny 15 = .ok (.bipush 124, 2) := by decide +kernel
theorem dX5_readAny_17 : decode cX5_readAny 17 = .ok (.invokevirtual 42, 3) := by decide +kernel
theorem dX5_readAny_20 : decode cX5_readAny 20 = .ok (.ifCond .eq 31, 3) := by decide +kernel
theorem dX5_readAny_23 : decode cX5_readAny 23 = .ok (.aload_n 0, 1) := by decide +kernel
theorem dX5_readAny_24 : decode cX5_readAny 24 = .ok (.iload_n 1, 1) := by decide +kernel
theorem dX5_readAny_25 : decode cX5_readAny 25 = .ok (.invokevirtual 39, 3) := by decide +kernel
theorem dX5_readAny_28 : decode cX5_readAny 28 = .ok (.istore 4, 2) := by decide +kernel
theorem dX5_readAny_30 : decode cX5_readAny 30 = .ok (.iload_n 2, 1) := by decide +kernel
theorem dX5_readAny_31 : decode cX5_readAny 31 = .ok (.ifCond .ne 8, 3) := by decide +kernel
theorem dX5_readAny_34 : decode cX5_readAny 34 = .ok (.iload 4, 2) := by decide +kernel
theorem dX5_readAny_36 : decode cX5_readAny 36 = .ok (.ifCond .eq 7, 3) := by decide +kernel
theorem dX5_readAny_39 : decode cX5_readAny 39 = .ok (.iconst 1, 1) := by decide +kernel
theorem dX5_readAny_40 : decode cX5_readAny 40 = .ok (.goto 4, 3) := by decide +kernel
theorem dX5_readAny_43 : decode cX5_readAny 43 = .ok (.iconst 0, 1) := by decide +kernel
theorem dX5_readAny_44 : decode cX5_readAny 44 = .ok (.istore_n 2, 1) := by decide +kernel
theorem dX5_readAny_45 : decode cX5_readAny 45 = .ok (.iinc 3 1, 3) := by decide +kernel
theorem dX5_readAny_48 : decode cX5_readAny 48 = .ok (.goto (-40), 3) := by decide +kernel
theorem dX5_readAny_51 : decode cX5_readAny 51 = .ok (.iload_n 2, 1) := by decide +kernel
theorem dX5_readAny_52 : decode cX5_readAny 52 = .ok (.ireturn, 1) := by decide +kernel
theorem dX5_readBoth_0 : decode cX5_readBoth 0 = .ok (.aload_n 0, 1) := by decide +kernel
theorem dX5_readBoth_1 : decode cX5_readBoth 1 = .ok (.iload_n 1, 1) := by decide +kernel
theorem dX5_readBoth_2 : decode cX5_readBoth 2 = .ok (.invokevirtual 46, 3) := by decide +kernel
theorem dX5_readBoth_5 : decode cX5_readBoth 5 = .ok (.istore_n 2, 1) := by decide +kernel
theorem dX5_readBoth_6 : decode cX5_readBoth 6 = .ok (.iconst 0, 1) := by decide +kernel
theorem dX5_readBoth_7 : decode cX5_readBoth 7 = .ok (.istore_n 3, 1) := by decide +kernel
theorem dX5_readBoth_8 : decode cX5_readBoth 8 = .ok (.iload_n 3, 1) := by decide +kernel
theorem dX5_readBoth_9 : decode cX5_readBoth 9 = .ok (.bipush 60, 2) := by decide +kernel
theorem dX5_readBoth_11 : decode cX5_readBoth 11 = .ok (.if_icmp .ge 40, 3) := by decide +kernel
theorem dX5_readBoth_14 : decode cX5_readBoth 14 = .ok (.aload_n 0, 1) := by decide +kernel
theorem dX5_readBoth_15 : decode cX5_readBoth 15 = .ok (.bipush 38, 2) := by decide +kernel
theorem dX5_readBoth_17 : decode cX5_readBoth 17 = .ok (.invokevirtual 42, 3) := by decide +kernel
theorem dX5_readBoth_20 : decode cX5_readBoth 20 = .ok (.ifCond .eq 31, 3) := by decide +kernel
theorem dX5_readBoth_23 : decode cX5_readBoth 23 = .ok (.aload_n 0, 1) := by decide +kernel
theorem dX5_readBoth_24 : decode cX5_readBoth 24 = .ok (.iload_n 1, 1) := by decide +kernel
theorem dX5_readBoth_25 : decode cX5_readBoth 25 = .ok (.invokevirtual 46, 3) := by decide +kernel
theorem dX5_readBoth_28 : decode cX5_readBoth 28 = .ok (.istore 4, 2) := by decide +kernel
theorem dX5_readBoth_30 : decode cX5_readBoth 30 = .ok (.iload_n 2, 1) := by decide +kernel
theorem dX5_readBoth_31 : decode cX5_readBoth 31 = .ok (.ifCond .eq 12, 3) := by decide +kernel
theorem dX5_readBoth_34 : decode cX5_readBoth 34 = .ok (.iload 4, 2) := by decide +kernel
theorem dX5_readBoth_36 : decode cX5_readBoth 36 = .ok (.ifCond .eq 7, 3) := by decide +kernel
theorem dX5_readBoth_39 : decode cX5_readBoth 39 = .ok (.iconst 1, 1) := by decide +kernel
theorem dX5_readBoth_40 : decode cX5_readBoth 40 = .ok (.goto 4, 3) := by decide +kernel
theorem dX5_readBoth_43 : decode cX5_readBoth 43 = .ok (.iconst 0, 1) := by decide +kernel
theorem dX5_readBoth_44 : decode cX5_readBoth 44 = .ok (.istore_n 2, 1) := by decide +kernel
theorem dX5_readBoth_45 : decode cX5_readBoth 45 = .ok (.iinc 3 1, 3) := by decide +kernel
theorem dX5_readBoth_48 : decode cX5_readBoth 48 = .ok (.goto (-40), 3) := by decide +kernel
theorem dX5_readBoth_51 : decode cX5_readBoth 51 = .ok (.iload_n 2, 1) := by decide +kernel
theorem dX5_readBoth_52 : decode cX5_readBoth 52 = .ok (.ireturn, 1) := by decide +kernel
theorem dX5_readOne_0 : decode cX5_readOne 0 = .ok (.aload_n 0, 1) := by decide +kernel
theorem dX5_readOne_1 : decode cX5_readOne 1 = .ok (.getfield 9, 3) := by decide +kernel
theorem dX5_readOne_4 : decode cX5_readOne 4 = .ok (.aload_n 0, 1) := by decide +kernel
theorem dX5_readOne_5 : decode cX5_readOne 5 = .ok (.getfield 19, 3) := by decide +kernel
theorem dX5_readOne_8 : decode cX5_readOne 8 = .ok (.invokevirtual 49, 3) := by decide +kernel
theorem dX5_readOne_11 : decode cX5_readOne 11 = .ok (.istore_n 2, 1) := by decide +kernel
theorem dX5_readOne_12 : decode cX5_readOne 12 = .ok (.iload_n 2, 1) := by decide +kernel
theorem dX5_readOne_13 : decode cX5_readOne 13 = .ok (.bipush 33, 2) := by decide +kernel
theorem dX5_readOne_15 : decode cX5_readOne 15 = .ok (.if_icmp .eq 14, 3) := by decide +kernel
theorem dX5_readOne_18 : decode cX5_readOne 18 = .ok (.iload_n 2, 1) := by decide +kernel
theorem dX5_readOne_19 : decode cX5_readOne 19 = .ok (.bipush 40, 2) := by decide +kernel
theorem dX5_readOne_21 : decode cX5_readOne 21 = .ok (.if_icmp .eq 8, 3) := by decide +kernel
theorem dX5_readOne_24 : decode cX5_readOne 24 = .ok (.aload_n 0, 1) := by decide +kernel
theorem dX5_readOne_25 : decode cX5_readOne 25 = .ok (.invokevirtual 53, 3) := by decide +kernel
theorem dX5_readOne_28 : decode cX5_readOne 28 = .ok (.ireturn, 1) := by decide +kernel
theorem dX5_readOne_29 : decode cX5_readOne 29 = .ok (.iload_n 1, 1) := by decide +kernel
theorem dX5_readOne_30 : decode cX5_readOne 30 = .ok (.bipush 20, 2) := by decide +kernel
theorem dX5_readOne_32 : decode cX5_readOne 32 = .ok (.if_icmp .lt 8, 3) := by decide +kernel
theorem dX5_readOne_35 : decode cX5_readOne 35 = .ok (.aload_n 0, 1) := by decide +kernel
theorem dX5_readOne_36 : decode cX5_readOne 36 = .ok (.invokevirtual 35, 3) := by decide +kernel
theorem dX5_readOne_39 : decode cX5_readOne 39 = .ok (.ireturn, 1) := by decide +kernel
theorem dX5_readOne_40 : decode cX5_readOne 40 = .ok (.aload_n 0, 1) := by decide +kernel
theorem dX5_readOne_41 : decode cX5_readOne 41 = .ok (.bipush 33, 2) := by decide +kernel
theorem dX5_readOne_43 : decode cX5_readOne 43 = .ok (.invokevirtual 42, 3) := by decide +kernel
theorem dX5_readOne_46 : decode cX5_readOne 46 = .ok (.ifCond .eq 19, 3) := by decide +kernel
theorem dX5_readOne_49 : decode cX5_readOne 49 = .ok (.aload_n 0, 1) := by decide +kernel
theorem dX5_readOne_50 : decode cX5_readOne 50 = .ok (.iload_n 1, 1) := by decide +kernel
theorem dX5_readOne_51 : decode cX5_readOne 51 = .ok (.iconst 1, 1) := by decide +kernel
theorem dX5_readOne_52 : decode cX5_readOne 52 = .ok (.iadd, 1) := by decide +kernel
theorem dX5_readOne_53 : decode cX5_readOne 53 = .ok (.invokevirtual 46, 3) := by decide +kernel
theorem dX5_readOne_56 : decode cX5_readOne 56 = .ok (.ifCond .ne 7, 3) := by decide +kernel
theorem dX5_readOne_59 : decode cX5_readOne 59 = .ok (.iconst 1, 1) := by decide +kernel
theorem dX5_readOne_60 : decode cX5_readOne 60 = .ok (.goto 4, 3) := by decide +kernel
theorem dX5_readOne_63 : decode cX5_readOne 63 = .ok (.iconst 0, 1) := by decide +kernel
theorem dX5_readOne_64 : decode cX5_readOne 64 = .ok (.ireturn, 1) := by decide +kernel
theorem dX5_readOne_65 : decode cX5_readOne 65 = .ok (.aload_n 0, 1) := by decide +kernel
theorem dX5_readOne_66 : decode cX5_readOne 66 = .ok (.bipush 40, 2) := by decide +kernel
theorem dX5_readOne_68 : decode cX5_readOne 68 = .ok (.invokevirtual 42, 3) := by decide +kernel
theorem dX5_readOne_71 : decode cX5_readOne 71 = .ok (.pop, 1) := by decide +kernel
theorem dX5_readOne_72 : decode cX5_readOne 72 = .ok (.aload_n 0, 1) := by decide +kernel
theorem dX5_readOne_73 : decode cX5_readOne 73 = .ok (.iload_n 1, 1) := by decide +kernel
theorem dX5_readOne_74 : decode cX5_readOne 74 = .ok (.iconst 1, 1) := by decide +kernel
theorem dX5_readOne_75 : decode cX5_readOne 75 = .ok (.iadd, 1) := by decide +kernel
theorem dX5_readOne_76 : decode cX5_readOne 76 = .ok (.invokevirtual 26, 3) := by decide +kernel
theorem dX5_readOne_79 : decode cX5_readOne 79 = .ok (.istore_n 3, 1) := by decide +kernel
theorem dX5_readOne_80 : decode cX5_readOne 80 = .ok (.aload_n 0, 1) := by decide +kernel
theorem dX5_readOne_81 : decode cX5_readOne 81 = .ok (.bipush 41, 2) := by decide +kernel
theorem dX5_readOne_83 : decode cX5_readOne 83 = .ok (.invokevirtual 42, 3) := by decide +kernel
theorem dX5_readOne_86 : decode cX5_readOne 86 = .ok (.ifCond .eq 7, 3) := by decide +kernel
theorem dX5_readOne_89 : decode cX5_readOne 89 = .ok (.iload_n 3, 1) := by decide +kernel
theorem dX5_readOne_90 : decode cX5_readOne 90 = .ok (.goto 7, 3) := by decide +kernel
theorem dX5_readOne_93 : decode cX5_readOne 93 = .ok (.aload_n 0, 1) := by decide +kernel
theorem dX5_readOne_94 : decode cX5_readOne 94 = .ok (.invokevirtual 35, 3) := by decide +kernel
theorem dX5_readOne_97 : decode cX5_readOne 97 = .ok (.ireturn, 1) := by decide +kernel
theorem dX5_readAsked_0 : decode cX5_readAsked 0 = .ok (.aload_n 0, 1) := by decide +kernel
theorem dX5_readAsked_1 : decode cX5_readAsked 1 = .ok (.getfield 9, 3) := by decide +kernel
theorem dX5_readAsked_4 : decode cX5_readAsked 4 = .ok (.aload_n 0, 1) := by decide +kernel
theorem dX5_readAsked_5 : decode cX5_readAsked 5 = .ok (.getfield 19, 3) := by decide +kernel
theorem dX5_readAsked_8 : decode cX5_readAsked 8 = .ok (.invokevirtual 49, 3) := by decide +kernel
theorem dX5_readAsked_11 : decode cX5_readAsked 11 = .ok (.istore_n 1, 1) := by decide +kernel
theorem dX5_readAsked_12 : decode cX5_readAsked 12 = .ok (.iload_n 1, 1) := by decide +kernel
theorem dX5_readAsked_13 : decode cX5_readAsked 13 = .ok (.invokestatic 56, 3) := by decide +kernel
theorem dX5_readAsked_16 : decode cX5_readAsked 16 = .ok (.ifCond .ne 8, 3) := by decide +kernel
theorem dX5_readAsked_19 : decode cX5_readAsked 19 = .ok (.aload_n 0, 1) := by decide +kernel
theorem dX5_readAsked_20 : decode cX5_readAsked 20 = .ok (.invokevirtual 35, 3) := by decide +kernel
theorem dX5_readAsked_23 : decode cX5_readAsked 23 = .ok (.ireturn, 1) := by decide +kernel
theorem dX5_readAsked_24 : decode cX5_readAsked 24 = .ok (.aload_n 0, 1) := by decide +kernel
theorem dX5_readAsked_25 : decode cX5_readAsked 25 = .ok (.dup, 1) := by decide +kernel
theorem dX5_readAsked_26 : decode cX5_readAsked 26 = .ok (.getfield 19, 3) := by decide +kernel
theorem dX5_readAsked_29 : decode cX5_readAsked 29 = .ok (.iconst 1, 1) := by decide +kernel
theorem dX5_readAsked_30 : decode cX5_readAsked 30 = .ok (.iadd, 1) := by decide +kernel
theorem dX5_readAsked_31 : decode cX5_readAsked 31 = .ok (.putfield 19, 3) := by decide +kernel
theorem dX5_readAsked_34 : decode cX5_readAsked 34 = .ok (.aload_n 0, 1) := by decide +kernel
theorem dX5_readAsked_35 : decode cX5_readAsked 35 = .ok (.invokevirtual 59, 3) := by decide +kernel
theorem dX5_readAsked_38 : decode cX5_readAsked 38 = .ok (.istore_n 2, 1) := by decide +kernel
theorem dX5_readAsked_39 : decode cX5_readAsked 39 = .ok (.aload_n 0, 1) := by decide +kernel
theorem dX5_readAsked_40 : decode cX5_readAsked 40 = .ok (.getfield 15, 3) := by decide +kernel
theorem dX5_readAsked_43 : decode cX5_readAsked 43 = .ok (.iload_n 1, 1) := by decide +kernel
theorem dX5_readAsked_44 : decode cX5_readAsked 44 = .ok (.iload_n 2, 1) := by decide +kernel
theorem dX5_readAsked_45 : decode cX5_readAsked 45 = .ok (.invokevirtual 63, 3) := by decide +kernel
theorem dX5_readAsked_48 : decode cX5_readAsked 48 = .ok (.ireturn, 1) := by decide +kernel
theorem dX5_canAsk_0 : decode cX5_canAsk 0 = .ok (.iload_n 0, 1) := by decide +kernel
theorem dX5_canAsk_1 : decode cX5_canAsk 1 = .ok (.bipush 116, 2) := by decide +kernel
theorem dX5_canAsk_3 : decode cX5_canAsk 3 = .ok (.if_icmp .eq 27, 3) := by decide +kernel
theorem dX5_canAsk_6 : decode cX5_canAsk 6 = .ok (.iload_n 0, 1) := by decide +kernel
theorem dX5_canAsk_7 : decode cX5_canAsk 7 = .ok (.bipush 104, 2) := by decide +kernel
theorem dX5_canAsk_9 : decode cX5_canAsk 9 = .ok (.if_icmp .eq 21, 3) := by decide +kernel
theorem dX5_canAsk_12 : decode cX5_canAsk 12 = .ok (.iload_n 0, 1) := by decide +kernel
theorem dX5_canAsk_13 : decode cX5_canAsk 13 = .ok (.bipush 119, 2) := by decide +kernel
theorem dX5_canAsk_15 : decode cX5_canAsk 15 = .ok (.if_icmp .eq 15, 3) := by decide +kernel
theorem dX5_canAsk_18 : decode cX5_canAsk 18 = .ok (.iload_n 0, 1) := by decide +kernel
theorem dX5_canAsk_19 : decode cX5_canAsk 19 = .ok (.bipush 108, 2) := by decide +kernel
theorem dX5_canAsk_21 : decode cX5_canAsk 21 = .ok (.if_icmp .eq 9, 3) := by decide +kernel
theorem dX5_canAsk_24 : decode cX5_canAsk 24 = .ok (.iload_n 0, 1) := by decide +kernel
theorem dX5_canAsk_25 : decode cX5_canAsk 25 = .ok (.bipush 114, 2) := by decide +kernel
theorem dX5_canAsk_27 : decode cX5_canAsk 27 = .ok (.if_icmp .ne 7, 3) := by decide +kernel
theorem dX5_canAsk_30 : decode cX5_canAsk 30 = .ok (.iconst 1, 1) := by decide +kernel
theorem dX5_canAsk_31 : decode cX5_canAsk 31 = .ok (.goto 4, 3) := by decide +kernel
theorem dX5_canAsk_34 : decode cX5_canAsk 34 = .ok (.iconst 0, 1) := by decide +kernel
theorem dX5_canAsk_35 : decode cX5_canAsk 35 = .ok (.ireturn, 1) := by decide +kernel
theorem dX5_readNumber_0 : decode cX5_readNumber 0 = .ok (.iconst 0, 1) := by decide +kernel
theorem dX5_readNumber_1 : decode cX5_readNumber 1 = .ok (.istore_n 1, 1) := by decide +kernel
theorem dX5_readNumber_2 : decode cX5_readNumber 2 = .ok (.iconst 0, 1) := by decide +kernel
theorem dX5_readNumber_3 : decode cX5_readNumber 3 = .ok (.istore_n 2, 1) := by decide +kernel
theorem dX5_readNumber_4 : decode cX5_readNumber 4 = .ok (.iload_n 2, 1) := by decide +kernel
theorem dX5_readNumber_5 : decode cX5_readNumber 5 = .ok (.iconst 3, 1) := by decide +kernel
theorem dX5_readNumber_6 : decode cX5_readNumber 6 = .ok (.if_icmp .ge 56, 3) := by decide +kernel
theorem dX5_readNumber_9 : decode cX5_readNumber 9 = .ok (.aload_n 0, 1) := by decide +kernel
theorem dX5_readNumber_10 : decode cX5_readNumber 10 = .ok (.getfield 9, 3) := by decide +kernel
theorem dX5_readNumber_13 : decode cX5_readNumber 13 = .ok (.aload_n 0, 1) := by decide +kernel
theorem dX5_readNumber_14 : decode cX5_readNumber 14 = .ok (.getfield 19, 3) := by decide +kernel
theorem dX5_readNumber_17 : decode cX5_readNumber 17 = .ok (.invokevirtual 49, 3) := by decide +kernel
theorem dX5_readNumber_20 : decode cX5_readNumber 20 = .ok (.invokestatic 69, 3) := by decide +kernel
theorem dX5_readNumber_23 : decode cX5_readNumber 23 = .ok (.ifCond .eq 39, 3) := by decide +kernel
theorem dX5_readNumber_26 : decode cX5_readNumber 26 = .ok (.bipush 10, 2) := by decide +kernel
theorem dX5_readNumber_28 : decode cX5_readNumber 28 = .ok (.iload_n 1, 1) := by decide +kernel
theorem dX5_readNumber_29 : decode cX5_readNumber 29 = .ok (.imul, 1) := by decide +kernel
theorem dX5_readNumber_30 : decode cX5_readNumber 30 = .ok (.aload_n 0, 1) := by decide +kernel
theorem dX5_readNumber_31 : decode cX5_readNumber 31 = .ok (.getfield 9, 3) := by decide +kernel
theorem dX5_readNumber_34 : decode cX5_readNumber 34 = .ok (.aload_n 0, 1) := by decide +kernel
theorem dX5_readNumber_35 : decode cX5_readNumber 35 = .ok (.getfield 19, 3) := by decide +kernel
theorem dX5_readNumber_38 : decode cX5_readNumber 38 = .ok (.invokevirtual 49, 3) := by decide +kernel
theorem dX5_readNumber_41 : decode cX5_readNumber 41 = .ok (.iadd, 1) := by decide +kernel
theorem dX5_readNumber_42 : decode cX5_readNumber 42 = .ok (.bipush 48, 2) := by decide +kernel
theorem dX5_readNumber_44 : decode cX5_readNumber 44 = .ok (.isub, 1) := by decide +kernel
theorem dX5_readNumber_45 : decode cX5_readNumber 45 = .ok (.istore_n 1, 1) := by decide +kernel
theorem dX5_readNumber_46 : decode cX5_readNumber 46 = .ok (.iinc 2 1, 3) := by decide +kernel
theorem dX5_readNumber_49 : decode cX5_readNumber 49 = .ok (.aload_n 0, 1) := by decide +kernel
theorem dX5_readNumber_50 : decode cX5_readNumber 50 = .ok (.dup, 1) := by decide +kernel
theorem dX5_readNumber_51 : decode cX5_readNumber 51 = .ok (.getfield 19, 3) := by decide +kernel
theorem dX5_readNumber_54 : decode cX5_readNumber 54 = .ok (.iconst 1, 1) := by decide +kernel
theorem dX5_readNumber_55 : decode cX5_readNumber 55 = .ok (.iadd, 1) := by decide +kernel
theorem dX5_readNumber_56 : decode cX5_readNumber 56 = .ok (.putfield 19, 3) := by decide +kernel
theorem dX5_readNumber_59 : decode cX5_readNumber 59 = .ok (.goto (-55), 3) := by decide +kernel
theorem dX5_readNumber_62 : decode cX5_readNumber 62 = .ok (.iload_n 2, 1) := by decide +kernel
theorem dX5_readNumber_63 : decode cX5_readNumber 63 = .ok (.ifCond .ne 8, 3) := by decide +kernel
theorem dX5_readNumber_66 : decode cX5_readNumber 66 = .ok (.aload_n 0, 1) := by decide +kernel
theorem dX5_readNumber_67 : decode cX5_readNumber 67 = .ok (.invokevirtual 35, 3) := by decide +kernel
theorem dX5_readNumber_70 : decode cX5_readNumber 70 = .ok (.pop, 1) := by decide +kernel
theorem dX5_readNumber_71 : decode cX5_readNumber 71 = .ok (.iload_n 1, 1) := by decide +kernel
theorem dX5_readNumber_72 : decode cX5_readNumber 72 = .ok (.ireturn, 1) := by decide +kernel
theorem dX5_isFigure_0 : decode cX5_isFigure 0 = .ok (.iload_n 0, 1) := by decide +kernel
theorem dX5_isFigure_1 : decode cX5_isFigure 1 = .ok (.bipush 48, 2) := by decide +kernel
theorem dX5_isFigure_3 : decode cX5_isFigure 3 = .ok (.if_icmp .lt 13, 3) := by decide +kernel
theorem dX5_isFigure_6 : decode cX5_isFigure 6 = .ok (.iload_n 0, 1) := by decide +kernel
theorem dX5_isFigure_7 : decode cX5_isFigure 7 = .ok (.bipush 57, 2) := by decide +kernel
theorem dX5_isFigure_9 : decode cX5_isFigure 9 = .ok (.if_icmp .gt 7, 3) := by decide +kernel
theorem dX5_isFigure_12 : decode cX5_isFigure 12 = .ok (.iconst 1, 1) := by decide +kernel
theorem dX5_isFigure_13 : decode cX5_isFigure 13 = .ok (.goto 4, 3) := by decide +kernel
theorem dX5_isFigure_16 : decode cX5_isFigure 16 = .ok (.iconst 0, 1) := by decide +kernel
theorem dX5_isFigure_17 : decode cX5_isFigure 17 = .ok (.ireturn, 1) := by decide +kernel
theorem dX5_passOver_0 : decode cX5_passOver 0 = .ok (.aload_n 0, 1) := by decide +kernel
theorem dX5_passOver_1 : decode cX5_passOver 1 = .ok (.getfield 23, 3) := by decide +kernel
theorem dX5_passOver_4 : decode cX5_passOver 4 = .ok (.iconst (-1), 1) := by decide +kernel
theorem dX5_passOver_5 : decode cX5_passOver 5 = .ok (.if_icmp .ne 18, 3) := by decide +kernel
theorem dX5_passOver_8 : decode cX5_passOver 8 = .ok (.aload_n 0, 1) := by decide +kernel
theorem dX5_passOver_9 : decode cX5_passOver 9 = .ok (.getfield 9, 3) := by decide +kernel
theorem dX5_passOver_12 : decode cX5_passOver 12 = .ok (.aload_n 0, 1) := by decide +kernel
theorem dX5_passOver_13 : decode cX5_passOver 13 = .ok (.getfield 19, 3) := by decide +kernel
theorem dX5_passOver_16 : decode cX5_passOver 16 = .ok (.invokevirtual 49, 3) := by decide +kernel
theorem dX5_passOver_19 : decode cX5_passOver 19 = .ok (.iload_n 1, 1) := by decide +kernel
theorem dX5_passOver_20 : decode cX5_passOver 20 = .ok (.if_icmp .eq 5, 3) := by decide +kernel
theorem dX5_passOver_23 : decode cX5_passOver 23 = .ok (.iconst 0, 1) := by decide +kernel
theorem dX5_passOver_24 : decode cX5_passOver 24 = .ok (.ireturn, 1) := by decide +kernel
theorem dX5_passOver_25 : decode cX5_passOver 25 = .ok (.aload_n 0, 1) := by decide +kernel
theorem dX5_passOver_26 : decode cX5_passOver 26 = .ok (.dup, 1) := by decide +kernel
theorem dX5_passOver_27 : decode cX5_passOver 27 = .ok (.getfield 19, 3) := by decide +kernel
theorem dX5_passOver_30 : decode cX5_passOver 30 = .ok (.iconst 1, 1) := by decide +kernel
theorem dX5_passOver_31 : decode cX5_passOver 31 = .ok (.iadd, 1) := by decide +kernel
theorem dX5_passOver_32 : decode cX5_passOver 32 = .ok (.putfield 19, 3) := by decide +kernel
theorem dX5_passOver_35 : decode cX5_passOver 35 = .ok (.iconst 1, 1) := by decide +kernel
theorem dX5_passOver_36 : decode cX5_passOver 36 = .ok (.ireturn, 1) := by decide +kernel
theorem dX5_fail_0 : decode cX5_fail 0 = .ok (.aload_n 0, 1) := by decide +kernel
theorem dX5_fail_1 : decode cX5_fail 1 = .ok (.getfield 23, 3) := by decide +kernel
theorem dX5_fail_4 : decode cX5_fail 4 = .ok (.iconst (-1), 1) := by decide +kernel
theorem dX5_fail_5 : decode cX5_fail 5 = .ok (.if_icmp .ne 11, 3) := by decide +kernel
theorem dX5_fail_8 : decode cX5_fail 8 = .ok (.aload_n 0, 1) := by decide +kernel
theorem dX5_fail_9 : decode cX5_fail 9 = .ok (.aload_n 0, 1) := by decide +kernel
theorem dX5_fail_10 : decode cX5_fail 10 = .ok (.getfield 19, 3) := by decide +kernel
theorem dX5_fail_13 : decode cX5_fail 13 = .ok (.putfield 23, 3) := by decide +kernel
theorem dX5_fail_16 : decode cX5_fail 16 = .ok (.iconst 0, 1) := by decide +kernel
theorem dX5_fail_17 : decode cX5_fail 17 = .ok (.ireturn, 1) := by decide +kernel
theorem dX6_init_0 : decode cX6_init 0 = .ok (.aload_n 0, 1) := by decide +kernel
theorem dX6_init_1 : decode cX6_init 1 = .ok (.invokespecial 3, 3) := by decide +kernel
theorem dX6_init_4 : decode cX6_init 4 = .ok (.aload_n 0, 1) := by decide +kernel
theorem dX6_init_5 : decode cX6_init 5 = .ok (.iconst 5, 1) := by decide +kernel
theorem dX6_init_6 : decode cX6_init 6 = .ok (.newarray .int, 2) := by decide +kernel
theorem dX6_init_8 : decode cX6_init 8 = .ok (.putfield 9, 3) := by decide +kernel
theorem dX6_init_11 : decode cX6_init 11 = .ok (.aload_n 0, 1) := by decide +kernel
theorem dX6_init_12 : decode cX6_init 12 = .ok (.iconst 5, 1) := by decide +kernel
theorem dX6_init_13 : decode cX6_init 13 = .ok (.newarray .int, 2) := by decide +kernel
theorem dX6_init_15 : decode cX6_init 15 = .ok (.putfield 15, 3) := by decide +kernel
theorem dX6_init_18 : decode cX6_init 18 = .ok (.aload_n 0, 1) := by decide +kernel
theorem dX6_init_19 : decode cX6_init 19 = .ok (.iload_n 1, 1) := by decide +kernel
theorem dX6_init_20 : decode cX6_init 20 = .ok (.putfield 18, 3) := by decide +kernel
theorem dX6_init_23 : decode cX6_init 23 = .ok (.return_, 1) := by decide +kernel
theorem dX6_setSpan_0 : decode cX6_setSpan 0 = .ok (.iload_n 1, 1) := by decide +kernel
theorem dX6_setSpan_1 : decode cX6_setSpan 1 = .ok (.invokestatic 22, 3) := by decide +kernel
theorem dX6_setSpan_4 : decode cX6_setSpan 4 = .ok (.ifCond .eq 30, 3) := by decide +kernel
theorem dX6_setSpan_7 : decode cX6_setSpan 7 = .ok (.iload_n 2, 1) := by decide +kernel
theorem dX6_setSpan_8 : decode cX6_setSpan 8 = .ok (.invokestatic 26, 3) := by decide +kernel
theorem dX6_setSpan_11 : decode cX6_setSpan 11 = .ok (.ifCond .eq 23, 3) := by decide +kernel
theorem dX6_setSpan_14 : decode cX6_setSpan 14 = .ok (.aload_n 0, 1) := by decide +kernel
theorem dX6_setSpan_15 : decode cX6_setSpan 15 = .ok (.getfield 9, 3) := by decide +kernel
theorem dX6_setSpan_18 : decode cX6_setSpan 18 = .ok (.iload_n 1, 1) := by decide +kernel
theorem dX6_setSpan_19 : decode cX6_setSpan 19 = .ok (.iload_n 2, 1) := by decide +kernel
theorem dX6_setSpan_20 : decode cX6_setSpan 20 = .ok (.bipush 100, 2) := by decide +kernel
theorem dX6_setSpan_22 : decode cX6_setSpan 22 = .ok (.idiv, 1) := by decide +kernel
theorem dX6_setSpan_23 : decode cX6_setSpan 23 = .ok (.iastore, 1) := by decide +kernel
theorem dX6_setSpan_24 : decode cX6_setSpan 24 = .ok (.aload_n 0, 1) := by decide +kernel
theorem dX6_setSpan_25 : decode cX6_setSpan 25 = .ok (.getfield 15, 3) := by decide +kernel
theorem dX6_setSpan_28 : decode cX6_setSpan 28 = .ok (.iload_n 1, 1) := by decide +kernel
theorem dX6_setSpan_29 : decode cX6_setSpan 29 = .ok (.iload_n 2, 1) := by decide +kernel
theorem dX6_setSpan_30 : decode cX6_setSpan 30 = .ok (.bipush 100, 2) := by decide +kernel
theorem dX6_setSpan_32 : decode cX6_setSpan 32 = .ok (.irem, 1) := by decide +kernel
theorem dX6_setSpan_33 : decode cX6_setSpan 33 = .ok (.iastore, 1) := by decide +kernel
theorem dX6_setSpan_34 : decode cX6_setSpan 34 = .ok (.return_, 1) := by decide +kernel
theorem dX6_spanTold_0 : decode cX6_spanTold 0 = .ok (.iload_n 1, 1) := by decide +kernel
theorem dX6_spanTold_1 : decode cX6_spanTold 1 = .ok (.invokestatic 22, 3) := by decide +kernel
theorem dX6_spanTold_4 : decode cX6_spanTold 4 = .ok (.ifCond .eq 22, 3) := by decide +kernel
theorem dX6_spanTold_7 : decode cX6_spanTold 7 = .ok (.bipush 100, 2) := by decide +kernel
theorem dX6_spanTold_9 : decode cX6_spanTold 9 = .ok (.aload_n 0, 1) := by decide +kernel
theorem dX6_spanTold_10 : decode cX6_spanTold 10 = .ok (.getfield 9, 3) := by decide +kernel
theorem dX6_spanTold_13 : decode cX6_spanTold 13 = .ok (.iload_n 1, 1) := by decide +kernel
theorem dX6_spanTold_14 : decode cX6_spanTold 14 = .ok (.iaload, 1) := by decide +kernel
theorem dX6_spanTold_15 : decode cX6_spanTold 15 = .ok (.imul, 1) := by decide +kernel
theorem dX6_spanTold_16 : decode cX6_spanTold 16 = .ok (.aload_n 0, 1) := by decide +kernel
theorem dX6_spanTold_17 : decode cX6_spanTold 17 = .ok (.getfield 15, 3) := by decide +kernel
theorem dX6_spanTold_20 : decode cX6_spanTold 20 = .ok (.iload_n 1, 1) := by decide +kernel
theorem dX6_spanTold_21 : decode cX6_spanTold 21 = .ok (.iaload, 1) := by decide +kernel
theorem dX6_spanTold_22 : decode cX6_spanTold 22 = .ok (.iadd, 1) := by decide +kernel
theorem dX6_spanTold_23 : decode cX6_spanTold 23 = .ok (.goto 4, 3) := by decide +kernel
theorem dX6_spanTold_26 : decode cX6_spanTold 26 = .ok (.iconst 0, 1) := by decide +kernel
theorem dX6_spanTold_27 : decode cX6_spanTold 27 = .ok (.ireturn, 1) := by decide +kernel
theorem dX6_seenIn_0 : decode cX6_seenIn 0 = .ok (.iload_n 1, 1) := by decide +kernel
theorem dX6_seenIn_1 : decode cX6_seenIn 1 = .ok (.invokestatic 22, 3) := by decide +kernel
theorem dX6_seenIn_4 : decode cX6_seenIn 4 = .ok (.ifCond .eq 9, 3) := by decide +kernel
theorem dX6_seenIn_7 : decode cX6_seenIn 7 = .ok (.iload_n 1, 1) := by decide +kernel
theorem dX6_seenIn_8 : decode cX6_seenIn 8 = .ok (.aload_n 2, 1) := by decide +kernel
theorem dX6_seenIn_9 : decode cX6_seenIn 9 = .ok (.arraylength, 1) := by decide +kernel
theorem dX6_seenIn_10 : decode cX6_seenIn 10 = .ok (.if_icmp .lt 5, 3) := by decide +kernel
theorem dX6_seenIn_13 : decode cX6_seenIn 13 = .ok (.iconst 0, 1) := by decide +kernel
theorem dX6_seenIn_14 : decode cX6_seenIn 14 = .ok (.ireturn, 1) := by decide +kernel
theorem dX6_seenIn_15 : decode cX6_seenIn 15 = .ok (.aload_n 0, 1) := by decide +kernel
theorem dX6_seenIn_16 : decode cX6_seenIn 16 = .ok (.getfield 15, 3) := by decide +kernel
theorem dX6_seenIn_19 : decode cX6_seenIn 19 = .ok (.iload_n 1, 1) := by decide +kernel
theorem dX6_seenIn_20 : decode cX6_seenIn 20 = .ok (.iaload, 1) := by decide +kernel
theorem dX6_seenIn_21 : decode cX6_seenIn 21 = .ok (.aload_n 0, 1) := by decide +kernel
theorem dX6_seenIn_22 : decode cX6_seenIn 22 = .ok (.getfield 9, 3) := by decide +kernel
theorem dX6_seenIn_25 : decode cX6_seenIn 25 = .ok (.iload_n 1, 1) := by decide +kernel
theorem dX6_seenIn_26 : decode cX6_seenIn 26 = .ok (.iaload, 1) := by decide +kernel
theorem dX6_seenIn_27 : decode cX6_seenIn 27 = .ok (.isub, 1) := by decide +kernel
theorem dX6_seenIn_28 : decode cX6_seenIn 28 = .ok (.iconst 1, 1) := by decide +kernel
theorem dX6_seenIn_29 : decode cX6_seenIn 29 = .ok (.iadd, 1) := by decide +kernel
theorem dX6_seenIn_30 : decode cX6_seenIn 30 = .ok (.istore_n 3, 1) := by decide +kernel
theorem dX6_seenIn_31 : decode cX6_seenIn 31 = .ok (.iconst 1, 1) := by decide +kernel
theorem dX6_seenIn_32 : decode cX6_seenIn 32 = .ok (.iload_n 3, 1) := by decide +kernel
theorem dX6_seenIn_33 : decode cX6_seenIn 33 = .ok (.ishl, 1) := by decide +kernel
theorem dX6_seenIn_34 : decode cX6_seenIn 34 = .ok (.iconst 1, 1) := by decide +kernel
theorem dX6_seenIn_35 : decode cX6_seenIn 35 = .ok (.isub, 1) := by decide +kernel
theorem dX6_seenIn_36 : decode cX6_seenIn 36 = .ok (.aload_n 0, 1) := by decide +kernel
theorem dX6_seenIn_37 : decode cX6_seenIn 37 = .ok (.getfield 9, 3) := by decide +kernel
theorem dX6_seenIn_40 : decode cX6_seenIn 40 = .ok (.iload_n 1, 1) := by decide +kernel
theorem dX6_seenIn_41 : decode cX6_seenIn 41 = .ok (.iaload, 1) := by decide +kernel
theorem dX6_seenIn_42 : decode cX6_seenIn 42 = .ok (.ishl, 1) := by decide +kernel
theorem dX6_seenIn_43 : decode cX6_seenIn 43 = .ok (.istore 4, 2) := by decide +kernel
theorem dX6_seenIn_45 : decode cX6_seenIn 45 = .ok (.aload_n 2, 1) := by decide +kernel
theorem dX6_seenIn_46 : decode cX6_seenIn 46 = .ok (.iload_n 1, 1) := by decide +kernel
theorem dX6_seenIn_47 : decode cX6_seenIn 47 = .ok (.iaload, 1) := by decide +kernel
theorem dX6_seenIn_48 : decode cX6_seenIn 48 = .ok (.iload 4, 2) := by decide +kernel
theorem dX6_seenIn_50 : decode cX6_seenIn 50 = .ok (.iand, 1) := by decide +kernel
theorem dX6_seenIn_51 : decode cX6_seenIn 51 = .ok (.ireturn, 1) := by decide +kernel
theorem dX6_layersHeld_0 : decode cX6_layersHeld 0 = .ok (.iconst 0, 1) := by decide +kernel
theorem dX6_layersHeld_1 : decode cX6_layersHeld 1 = .ok (.istore_n 2, 1) := by decide +kernel
theorem dX6_layersHeld_2 : decode cX6_layersHeld 2 = .ok (.iconst 0, 1) := by decide +kernel
theorem dX6_layersHeld_3 : decode cX6_layersHeld 3 = .ok (.istore_n 3, 1) := by decide +kernel
theorem dX6_layersHeld_4 : decode cX6_layersHeld 4 = .ok (.iload_n 3, 1) := by decide +kernel
theorem dX6_layersHeld_5 : decode cX6_layersHeld 5 = .ok (.iconst 5, 1) := by decide +kernel
theorem dX6_layersHeld_6 : decode cX6_layersHeld 6 = .ok (.if_icmp .ge 24, 3) := by decide +kernel
theorem dX6_layersHeld_9 : decode cX6_layersHeld 9 = .ok (.aload_n 0, 1) := by decide +kernel
theorem dX6_layersHeld_10 : decode cX6_layersHeld 10 = .ok (.iload_n 3, 1) := by decide +kernel
theorem dX6_layersHeld_11 : decode cX6_layersHeld 11 = .ok (.aload_n 1, 1) := by decide +kernel
theorem dX6_layersHeld_12 : decode cX6_layersHeld 12 = .ok (.invokevirtual 29, 3) := by decide +kernel
theorem dX6_layersHeld_15 : decode cX6_layersHeld 15 = .ok (.ifCond .eq 9, 3) := by decide +kernel
theorem dX6_layersHeld_18 : decode cX6_layersHeld 18 = .ok (.iload_n 2, 1) := by decide +kernel
theorem dX6_layersHeld_19 : decode cX6_layersHeld 19 = .ok (.iconst 1, 1) := by decide +kernel
theorem dX6_layersHeld_20 : decode cX6_layersHeld 20 = .ok (.iload_n 3, 1) := by decide +kernel
theorem dX6_layersHeld_21 : decode cX6_layersHeld 21 = .ok (.ishl, 1) := by decide +kernel
theorem dX6_layersHeld_22 : decode cX6_layersHeld 22 = .ok (.ior, 1) := by decide +kernel
theorem dX6_layersHeld_23 : decode cX6_layersHeld 23 = .ok (.istore_n 2, 1) := by decide +kernel
theorem dX6_layersHeld_24 : decode cX6_layersHeld 24 = .ok (.iinc 3 1, 3) := by decide +kernel
theorem dX6_layersHeld_27 : decode cX6_layersHeld 27 = .ok (.goto (-23), 3) := by decide +kernel
theorem dX6_layersHeld_30 : decode cX6_layersHeld 30 = .ok (.iload_n 2, 1) := by decide +kernel
theorem dX6_layersHeld_31 : decode cX6_layersHeld 31 = .ok (.ireturn, 1) := by decide +kernel
theorem dX6_isLit_0 : decode cX6_isLit 0 = .ok (.aload_n 0, 1) := by decide +kernel
theorem dX6_isLit_1 : decode cX6_isLit 1 = .ok (.aload_n 1, 1) := by decide +kernel
theorem dX6_isLit_2 : decode cX6_isLit 2 = .ok (.invokevirtual 33, 3) := by decide +kernel
theorem dX6_isLit_5 : decode cX6_isLit 5 = .ok (.invokestatic 37, 3) := by decide +kernel
theorem dX6_isLit_8 : decode cX6_isLit 8 = .ok (.aload_n 0, 1) := by decide +kernel
theorem dX6_isLit_9 : decode cX6_isLit 9 = .ok (.getfield 18, 3) := by decide +kernel
theorem dX6_isLit_12 : decode cX6_isLit 12 = .ok (.if_icmp .lt 7, 3) := by decide +kernel
theorem dX6_isLit_15 : decode cX6_isLit 15 = .ok (.iconst 1, 1) := by decide +kernel
theorem dX6_isLit_16 : decode cX6_isLit 16 = .ok (.goto 4, 3) := by decide +kernel
theorem dX6_isLit_19 : decode cX6_isLit 19 = .ok (.iconst 0, 1) := by decide +kernel
theorem dX6_isLit_20 : decode cX6_isLit 20 = .ok (.ireturn, 1) := by decide +kernel
theorem dX7_init_0 : decode cX7_init 0 = .ok (.aload_n 0, 1) := by decide +kernel
theorem dX7_init_1 : decode cX7_init 1 = .ok (.invokespecial 3, 3) := by decide +kernel
theorem dX7_init_4 : decode cX7_init 4 = .ok (.aload_n 0, 1) := by decide +kernel
theorem dX7_init_5 : decode cX7_init 5 = .ok (.bipush 20, 2) := by decide +kernel
theorem dX7_init_7 : decode cX7_init 7 = .ok (.newarray .int, 2) := by decide +kernel
theorem dX7_init_9 : decode cX7_init 9 = .ok (.putfield 9, 3) := by decide +kernel
theorem dX7_init_12 : decode cX7_init 12 = .ok (.return_, 1) := by decide +kernel
theorem dX7_lay_0 : decode cX7_lay 0 = .ok (.aload_n 0, 1) := by decide +kernel
theorem dX7_lay_1 : decode cX7_lay 1 = .ok (.iconst 1, 1) := by decide +kernel
theorem dX7_lay_2 : decode cX7_lay 2 = .ok (.putfield 15, 3) := by decide +kernel
theorem dX7_lay_5 : decode cX7_lay 5 = .ok (.aload_n 0, 1) := by decide +kernel
theorem dX7_lay_6 : decode cX7_lay 6 = .ok (.iload_n 1, 1) := by decide +kernel
theorem dX7_lay_7 : decode cX7_lay 7 = .ok (.putfield 19, 3) := by decide +kernel
theorem dX7_lay_10 : decode cX7_lay 10 = .ok (.aload_n 0, 1) := by decide +kernel
theorem dX7_lay_11 : decode cX7_lay 11 = .ok (.iload_n 2, 1) := by decide +kernel
theorem dX7_lay_12 : decode cX7_lay 12 = .ok (.putfield 23, 3) := by decide +kernel
theorem dX7_lay_15 : decode cX7_lay 15 = .ok (.iconst 0, 1) := by decide +kernel
theorem dX7_lay_16 : decode cX7_lay 16 = .ok (.istore_n 3, 1) := by decide +kernel
theorem dX7_lay_17 : decode cX7_lay 17 = .ok (.iload_n 3, 1) := by decide +kernel
theorem dX7_lay_18 : decode cX7_lay 18 = .ok (.bipush 20, 2) := by decide +kernel
theorem dX7_lay_20 : decode cX7_lay 20 = .ok (.if_icmp .ge 16, 3) := by decide +kernel
theorem dX7_lay_23 : decode cX7_lay 23 = .ok (.aload_n 0, 1) := by decide +kernel
theorem dX7_lay_24 : decode cX7_lay 24 = .ok (.getfield 9, 3) := by decide +kernel
theorem dX7_lay_27 : decode cX7_lay 27 = .ok (.iload_n 3, 1) := by decide +kernel
theorem dX7_lay_28 : decode cX7_lay 28 = .ok (.iconst 0, 1) := by decide +kernel
theorem dX7_lay_29 : decode cX7_lay 29 = .ok (.iastore, 1) := by decide +kernel
theorem dX7_lay_30 : decode cX7_lay 30 = .ok (.iinc 3 1, 3) := by decide +kernel
theorem dX7_lay_33 : decode cX7_lay 33 = .ok (.goto (-16), 3) := by decide +kernel
theorem dX7_lay_36 : decode cX7_lay 36 = .ok (.return_, 1) := by decide +kernel
theorem dX7_has_0 : decode cX7_has 0 = .ok (.iload_n 1, 1) := by decide +kernel
theorem dX7_has_1 : decode cX7_has 1 = .ok (.ifCond .lt 21, 3) := by decide +kernel
theorem dX7_has_4 : decode cX7_has 4 = .ok (.iload_n 1, 1) := by decide +kernel
theorem dX7_has_5 : decode cX7_has 5 = .ok (.aload_n 0, 1) := by decide +kernel
theorem dX7_has_6 : decode cX7_has 6 = .ok (.getfield 23, 3) := by decide +kernel
theorem dX7_has_9 : decode cX7_has 9 = .ok (.if_icmp .ge 13, 3) := by decide +kernel
theorem dX7_has_12 : decode cX7_has 12 = .ok (.iload_n 1, 1) := by decide +kernel
theorem dX7_has_13 : decode cX7_has 13 = .ok (.bipush 20, 2) := by decide +kernel
theorem dX7_has_15 : decode cX7_has 15 = .ok (.if_icmp .ge 7, 3) := by decide +kernel
theorem dX7_has_18 : decode cX7_has 18 = .ok (.iconst 1, 1) := by decide +kernel
theorem dX7_has_19 : decode cX7_has 19 = .ok (.goto 4, 3) := by decide +kernel
theorem dX7_has_22 : decode cX7_has 22 = .ok (.iconst 0, 1) := by decide +kernel
theorem dX7_has_23 : decode cX7_has 23 = .ok (.ireturn, 1) := by decide +kernel
theorem dX7_numberAt_0 : decode cX7_numberAt 0 = .ok (.aload_n 0, 1) := by decide +kernel
theorem dX7_numberAt_1 : decode cX7_numberAt 1 = .ok (.iload_n 1, 1) := by decide +kernel
theorem dX7_numberAt_2 : decode cX7_numberAt 2 = .ok (.invokevirtual 26, 3) := by decide +kernel
theorem dX7_numberAt_5 : decode cX7_numberAt 5 = .ok (.ifCond .eq 12, 3) := by decide +kernel
theorem dX7_numberAt_8 : decode cX7_numberAt 8 = .ok (.aload_n 0, 1) := by decide +kernel
theorem dX7_numberAt_9 : decode cX7_numberAt 9 = .ok (.getfield 9, 3) := by decide +kernel
theorem dX7_numberAt_12 : decode cX7_numberAt 12 = .ok (.iload_n 1, 1) := by decide +kernel
theorem dX7_numberAt_13 : decode cX7_numberAt 13 = .ok (.iaload, 1) := by decide +kernel
theorem dX7_numberAt_14 : decode cX7_numberAt 14 = .ok (.goto 4, 3) := by decide +kernel
theorem dX7_numberAt_17 : decode cX7_numberAt 17 = .ok (.iconst 0, 1) := by decide +kernel
theorem dX7_numberAt_18 : decode cX7_numberAt 18 = .ok (.ireturn, 1) := by decide +kernel
theorem dX7_put_0 : decode cX7_put 0 = .ok (.aload_n 0, 1) := by decide +kernel
theorem dX7_put_1 : decode cX7_put 1 = .ok (.iload_n 1, 1) := by decide +kernel
theorem dX7_put_2 : decode cX7_put 2 = .ok (.invokevirtual 26, 3) := by decide +kernel
theorem dX7_put_5 : decode cX7_put 5 = .ok (.ifCond .ne 4, 3) := by decide +kernel
theorem dX7_put_8 : decode cX7_put 8 = .ok (.return_, 1) := by decide +kernel
theorem dX7_put_9 : decode cX7_put 9 = .ok (.aload_n 0, 1) := by decide +kernel
theorem dX7_put_10 : decode cX7_put 10 = .ok (.getfield 19, 3) := by decide +kernel
theorem dX7_put_13 : decode cX7_put 13 = .ok (.ifCond .ne 14, 3) := by decide +kernel
theorem dX7_put_16 : decode cX7_put 16 = .ok (.aload_n 0, 1) := by decide +kernel
theorem dX7_put_17 : decode cX7_put 17 = .ok (.getfield 9, 3) := by decide +kernel
theorem dX7_put_20 : decode cX7_put 20 = .ok (.iload_n 1, 1) := by decide +kernel
theorem dX7_put_21 : decode cX7_put 21 = .ok (.iload_n 2, 1) := by decide +kernel
theorem dX7_put_22 : decode cX7_put 22 = .ok (.i2b, 1) := by decide +kernel
theorem dX7_put_23 : decode cX7_put 23 = .ok (.iastore, 1) := by decide +kernel
theorem dX7_put_24 : decode cX7_put 24 = .ok (.goto 29, 3) := by decide +kernel
theorem dX7_put_27 : decode cX7_put 27 = .ok (.aload_n 0, 1) := by decide +kernel
theorem dX7_put_28 : decode cX7_put 28 = .ok (.getfield 19, 3) := by decide +kernel
theorem dX7_put_31 : decode cX7_put 31 = .ok (.iconst 1, 1) := by decide +kernel
theorem dX7_put_32 : decode cX7_put 32 = .ok (.if_icmp .ne 14, 3) := by decide +kernel
theorem dX7_put_35 : decode cX7_put 35 = .ok (.aload_n 0, 1) := by decide +kernel
theorem dX7_put_36 : decode cX7_put 36 = .ok (.getfield 9, 3) := by decide +kernel
theorem dX7_put_39 : decode cX7_put 39 = .ok (.iload_n 1, 1) := by decide +kernel
theorem dX7_put_40 : decode cX7_put 40 = .ok (.iload_n 2, 1) := by decide +kernel
theorem dX7_put_41 : decode cX7_put 41 = .ok (.i2s, 1) := by decide +kernel
theorem dX7_put_42 : decode cX7_put 42 = .ok (.iastore, 1) := by decide +kernel
theorem dX7_put_43 : decode cX7_put 43 = .ok (.goto 10, 3) := by decide +kernel
theorem dX7_put_46 : decode cX7_put 46 = .ok (.aload_n 0, 1) := by decide +kernel
theorem dX7_put_47 : decode cX7_put 47 = .ok (.getfield 9, 3) := by decide +kernel
theorem dX7_put_50 : decode cX7_put 50 = .ok (.iload_n 1, 1) := by decide +kernel
theorem dX7_put_51 : decode cX7_put 51 = .ok (.iload_n 2, 1) := by decide +kernel
theorem dX7_put_52 : decode cX7_put 52 = .ok (.iastore, 1) := by decide +kernel
theorem dX7_put_53 : decode cX7_put 53 = .ok (.return_, 1) := by decide +kernel
theorem dX8_init_0 : decode cX8_init 0 = .ok (.aload_n 0, 1) := by decide +kernel
theorem dX8_init_1 : decode cX8_init 1 = .ok (.invokespecial 3, 3) := by decide +kernel
theorem dX8_init_4 : decode cX8_init 4 = .ok (.aload_n 0, 1) := by decide +kernel
theorem dX8_init_5 : decode cX8_init 5 = .ok (.bipush 60, 2) := by decide +kernel
theorem dX8_init_7 : decode cX8_init 7 = .ok (.newarray .char, 2) := by decide +kernel
theorem dX8_init_9 : decode cX8_init 9 = .ok (.putfield 9, 3) := by decide +kernel
theorem dX8_init_12 : decode cX8_init 12 = .ok (.return_, 1) := by decide +kernel
theorem dX8_put_0 : decode cX8_put 0 = .ok (.aload_n 0, 1) := by decide +kernel
theorem dX8_put_1 : decode cX8_put 1 = .ok (.getfield 15, 3) := by decide +kernel
theorem dX8_put_4 : decode cX8_put 4 = .ok (.bipush 60, 2) := by decide +kernel
theorem dX8_put_6 : decode cX8_put 6 = .ok (.if_icmp .ge 23, 3) := by decide +kernel
theorem dX8_put_9 : decode cX8_put 9 = .ok (.aload_n 0, 1) := by decide +kernel
theorem dX8_put_10 : decode cX8_put 10 = .ok (.getfield 9, 3) := by decide +kernel
theorem dX8_put_13 : decode cX8_put 13 = .ok (.aload_n 0, 1) := by decide +kernel
theorem dX8_put_14 : decode cX8_put 14 = .ok (.getfield 15, 3) := by decide +kernel
theorem dX8_put_17 : decode cX8_put 17 = .ok (.iload_n 1, 1) := by decide +kernel
theorem dX8_put_18 : decode cX8_put 18 = .ok (.castore, 1) := by decide +kernel
theorem dX8_put_19 : decode cX8_put 19 = .ok (.aload_n 0, 1) := by decide +kernel
theorem dX8_put_20 : decode cX8_put 20 = .ok (.dup, 1) := by decide +kernel
theorem dX8_put_21 : decode cX8_put 21 = .ok (.getfield 15, 3) := by decide +kernel
theorem dX8_put_24 : decode cX8_put 24 = .ok (.iconst 1, 1) := by decide +kernel
theorem dX8_put_25 : decode cX8_put 25 = .ok (.iadd, 1) := by decide +kernel
theorem dX8_put_26 : decode cX8_put 26 = .ok (.putfield 15, 3) := by decide +kernel
theorem dX8_put_29 : decode cX8_put 29 = .ok (.return_, 1) := by decide +kernel
theorem dX8_copy_0 : decode cX8_copy 0 = .ok (.aload_n 0, 1) := by decide +kernel
theorem dX8_copy_1 : decode cX8_copy 1 = .ok (.iconst 0, 1) := by decide +kernel
theorem dX8_copy_2 : decode cX8_copy 2 = .ok (.putfield 15, 3) := by decide +kernel
theorem dX8_copy_5 : decode cX8_copy 5 = .ok (.iconst 0, 1) := by decide +kernel
theorem dX8_copy_6 : decode cX8_copy 6 = .ok (.istore_n 2, 1) := by decide +kernel
theorem dX8_copy_7 : decode cX8_copy 7 = .ok (.iload_n 2, 1) := by decide +kernel
theorem dX8_copy_8 : decode cX8_copy 8 = .ok (.aload_n 1, 1) := by decide +kernel
theorem dX8_copy_9 : decode cX8_copy 9 = .ok (.getfield 15, 3) := by decide +kernel
theorem dX8_copy_12 : decode cX8_copy 12 = .ok (.if_icmp .ge 19, 3) := by decide +kernel
theorem dX8_copy_15 : decode cX8_copy 15 = .ok (.aload_n 0, 1) := by decide +kernel
theorem dX8_copy_16 : decode cX8_copy 16 = .ok (.aload_n 1, 1) := by decide +kernel
theorem dX8_copy_17 : decode cX8_copy 17 = .ok (.getfield 9, 3) := by decide +kernel
theorem dX8_copy_20 : decode cX8_copy 20 = .ok (.iload_n 2, 1) := by decide +kernel
theorem dX8_copy_21 : decode cX8_copy 21 = .ok (.caload, 1) := by decide +kernel
theorem dX8_copy_22 : decode cX8_copy 22 = .ok (.invokevirtual 19, 3) := by decide +kernel
theorem dX8_copy_25 : decode cX8_copy 25 = .ok (.iinc 2 1, 3) := by decide +kernel
theorem dX8_copy_28 : decode cX8_copy 28 = .ok (.goto (-21), 3) := by decide +kernel
theorem dX8_copy_31 : decode cX8_copy 31 = .ok (.return_, 1) := by decide +kernel
theorem dX8_letterAt_0 : decode cX8_letterAt 0 = .ok (.iload_n 1, 1) := by decide +kernel
theorem dX8_letterAt_1 : decode cX8_letterAt 1 = .ok (.ifCond .lt 11, 3) := by decide +kernel
theorem dX8_letterAt_4 : decode cX8_letterAt 4 = .ok (.iload_n 1, 1) := by decide +kernel
theorem dX8_letterAt_5 : decode cX8_letterAt 5 = .ok (.aload_n 0, 1) := by decide +kernel
theorem dX8_letterAt_6 : decode cX8_letterAt 6 = .ok (.getfield 15, 3) := by decide +kernel
theorem dX8_letterAt_9 : decode cX8_letterAt 9 = .ok (.if_icmp .lt 7, 3) := by decide +kernel
theorem dX8_letterAt_12 : decode cX8_letterAt 12 = .ok (.iconst (-1), 1) := by decide +kernel
theorem dX8_letterAt_13 : decode cX8_letterAt 13 = .ok (.goto 9, 3) := by decide +kernel
theorem dX8_letterAt_16 : decode cX8_letterAt 16 = .ok (.aload_n 0, 1) := by decide +kernel
theorem dX8_letterAt_17 : decode cX8_letterAt 17 = .ok (.getfield 9, 3) := by decide +kernel
theorem dX8_letterAt_20 : decode cX8_letterAt 20 = .ok (.iload_n 1, 1) := by decide +kernel
theorem dX8_letterAt_21 : decode cX8_letterAt 21 = .ok (.caload, 1) := by decide +kernel
theorem dX8_letterAt_22 : decode cX8_letterAt 22 = .ok (.ireturn, 1) := by decide +kernel
