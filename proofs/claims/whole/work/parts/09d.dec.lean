theorem dX10_findHeap_126 : decode cX10_findHeap 126 = .ok (.ifCond .eq 18, 3) := by decide +kernel
theorem dX10_findHeap_129 : decode cX10_findHeap 129 = .ok (.aload_n 0, 1) := by decide +kernel
theorem dX10_findHeap_130 : decode cX10_findHeap 130 = .ok (.iload 5, 2) := by decide +kernel
theorem dX10_findHeap_132 : decode cX10_findHeap 132 = .ok (.iload 6, 2) := by decide +kernel
theorem dX10_findHeap_134 : decode cX10_findHeap 134 = .ok (.invokevirtual 168, 3) := by decide +kernel
theorem dX10_findHeap_137 : decode cX10_findHeap 137 = .ok (.ifCond .eq 7, 3) := by decide +kernel
theorem dX10_findHeap_140 : decode cX10_findHeap 140 = .ok (.iconst 1, 1) := by decide +kernel
theorem dX10_findHeap_141 : decode cX10_findHeap 141 = .ok (.goto 4, 3) := by decide +kernel
theorem dX10_findHeap_144 : decode cX10_findHeap 144 = .ok (.iconst 0, 1) := by decide +kernel
theorem dX10_findHeap_145 : decode cX10_findHeap 145 = .ok (.istore_n 3, 1) := by decide +kernel
theorem dX10_findHeap_146 : decode cX10_findHeap 146 = .ok (.iinc 6 1, 3) := by decide +kernel
theorem dX10_findHeap_149 : decode cX10_findHeap 149 = .ok (.goto (-41), 3) := by decide +kernel
theorem dX10_findHeap_152 : decode cX10_findHeap 152 = .ok (.iinc 5 1, 3) := by decide +kernel
theorem dX10_findHeap_155 : decode cX10_findHeap 155 = .ok (.goto (-82), 3) := by decide +kernel
theorem dX10_findHeap_158 : decode cX10_findHeap 158 = .ok (.iload_n 3, 1) := by decide +kernel
theorem dX10_findHeap_159 : decode cX10_findHeap 159 = .ok (.ifCond .eq 26, 3) := by decide +kernel
theorem dX10_findHeap_162 : decode cX10_findHeap 162 = .ok (.iload 4, 2) := by decide +kernel
theorem dX10_findHeap_164 : decode cX10_findHeap 164 = .ok (.aload_n 0, 1) := by decide +kernel
theorem dX10_findHeap_165 : decode cX10_findHeap 165 = .ok (.getfield 165, 3) := by decide +kernel
theorem dX10_findHeap_168 : decode cX10_findHeap 168 = .ok (.if_icmp .gt 6, 3) := by decide +kernel
theorem dX10_findHeap_171 : decode cX10_findHeap 171 = .ok (.goto 14, 3) := by decide +kernel
theorem dX10_findHeap_174 : decode cX10_findHeap 174 = .ok (.aload_n 0, 1) := by decide +kernel
theorem dX10_findHeap_175 : decode cX10_findHeap 175 = .ok (.iload 4, 2) := by decide +kernel
theorem dX10_findHeap_177 : decode cX10_findHeap 177 = .ok (.putfield 165, 3) := by decide +kernel
theorem dX10_findHeap_180 : decode cX10_findHeap 180 = .ok (.aload_n 0, 1) := by decide +kernel
theorem dX10_findHeap_181 : decode cX10_findHeap 181 = .ok (.iload_n 2, 1) := by decide +kernel
theorem dX10_findHeap_182 : decode cX10_findHeap 182 = .ok (.putfield 162, 3) := by decide +kernel
theorem dX10_findHeap_185 : decode cX10_findHeap 185 = .ok (.iinc 2 1, 3) := by decide +kernel
theorem dX10_findHeap_188 : decode cX10_findHeap 188 = .ok (.goto (-144), 3) := by decide +kernel
theorem dX10_findHeap_191 : decode cX10_findHeap 191 = .ok (.return_, 1) := by decide +kernel
theorem dX10_heap_0 : decode cX10_heap 0 = .ok (.iload_n 1, 1) := by decide +kernel
theorem dX10_heap_1 : decode cX10_heap 1 = .ok (.i2l, 1) := by decide +kernel
theorem dX10_heap_2 : decode cX10_heap 2 = .ok (.lconst 0, 1) := by decide +kernel
theorem dX10_heap_3 : decode cX10_heap 3 = .ok (.ldc2_w 99, 3) := by decide +kernel
theorem dX10_heap_6 : decode cX10_heap 6 = .ok (.invokestatic 95, 3) := by decide +kernel
theorem dX10_heap_9 : decode cX10_heap 9 = .ok (.ifCond .ne 5, 3) := by decide +kernel
theorem dX10_heap_12 : decode cX10_heap 12 = .ok (.iconst (-1), 1) := by decide +kernel
theorem dX10_heap_13 : decode cX10_heap 13 = .ok (.ireturn, 1) := by decide +kernel
theorem dX10_heap_14 : decode cX10_heap 14 = .ok (.aload_n 0, 1) := by decide +kernel
theorem dX10_heap_15 : decode cX10_heap 15 = .ok (.invokevirtual 172, 3) := by decide +kernel
theorem dX10_heap_18 : decode cX10_heap 18 = .ok (.iload_n 1, 1) := by decide +kernel
theorem dX10_heap_19 : decode cX10_heap 19 = .ok (.ifCond .ne 10, 3) := by decide +kernel
theorem dX10_heap_22 : decode cX10_heap 22 = .ok (.aload_n 0, 1) := by decide +kernel
theorem dX10_heap_23 : decode cX10_heap 23 = .ok (.getfield 162, 3) := by decide +kernel
theorem dX10_heap_26 : decode cX10_heap 26 = .ok (.goto 22, 3) := by decide +kernel
theorem dX10_heap_29 : decode cX10_heap 29 = .ok (.iload_n 1, 1) := by decide +kernel
theorem dX10_heap_30 : decode cX10_heap 30 = .ok (.iconst 1, 1) := by decide +kernel
theorem dX10_heap_31 : decode cX10_heap 31 = .ok (.if_icmp .ne 13, 3) := by decide +kernel
theorem dX10_heap_34 : decode cX10_heap 34 = .ok (.aload_n 0, 1) := by decide +kernel
theorem dX10_heap_35 : decode cX10_heap 35 = .ok (.getfield 162, 3) := by decide +kernel
theorem dX10_heap_38 : decode cX10_heap 38 = .ok (.invokestatic 101, 3) := by decide +kernel
theorem dX10_heap_41 : decode cX10_heap 41 = .ok (.goto 7, 3) := by decide +kernel
theorem dX10_heap_44 : decode cX10_heap 44 = .ok (.aload_n 0, 1) := by decide +kernel
theorem dX10_heap_45 : decode cX10_heap 45 = .ok (.getfield 165, 3) := by decide +kernel
theorem dX10_heap_48 : decode cX10_heap 48 = .ok (.ireturn, 1) := by decide +kernel
theorem dX10_blind_0 : decode cX10_blind 0 = .ok (.iconst 0, 1) := by decide +kernel
theorem dX10_blind_1 : decode cX10_blind 1 = .ok (.istore_n 1, 1) := by decide +kernel
theorem dX10_blind_2 : decode cX10_blind 2 = .ok (.iconst 0, 1) := by decide +kernel
theorem dX10_blind_3 : decode cX10_blind 3 = .ok (.istore_n 2, 1) := by decide +kernel
theorem dX10_blind_4 : decode cX10_blind 4 = .ok (.iload_n 2, 1) := by decide +kernel
theorem dX10_blind_5 : decode cX10_blind 5 = .ok (.aload_n 0, 1) := by decide +kernel
theorem dX10_blind_6 : decode cX10_blind 6 = .ok (.getfield 124, 3) := by decide +kernel
theorem dX10_blind_9 : decode cX10_blind 9 = .ok (.if_icmp .ge 41, 3) := by decide +kernel
theorem dX10_blind_12 : decode cX10_blind 12 = .ok (.aload_n 0, 1) := by decide +kernel
theorem dX10_blind_13 : decode cX10_blind 13 = .ok (.iload_n 2, 1) := by decide +kernel
theorem dX10_blind_14 : decode cX10_blind 14 = .ok (.invokevirtual 139, 3) := by decide +kernel
theorem dX10_blind_17 : decode cX10_blind 17 = .ok (.ifCond .ne 27, 3) := by decide +kernel
theorem dX10_blind_20 : decode cX10_blind 20 = .ok (.aload_n 0, 1) := by decide +kernel
theorem dX10_blind_21 : decode cX10_blind 21 = .ok (.iload_n 2, 1) := by decide +kernel
theorem dX10_blind_22 : decode cX10_blind 22 = .ok (.iconst 1, 1) := by decide +kernel
theorem dX10_blind_23 : decode cX10_blind 23 = .ok (.invokevirtual 135, 3) := by decide +kernel
theorem dX10_blind_26 : decode cX10_blind 26 = .ok (.invokestatic 101, 3) := by decide +kernel
theorem dX10_blind_29 : decode cX10_blind 29 = .ok (.aload_n 0, 1) := by decide +kernel
theorem dX10_blind_30 : decode cX10_blind 30 = .ok (.getfield 31, 3) := by decide +kernel
theorem dX10_blind_33 : decode cX10_blind 33 = .ok (.iload_n 2, 1) := by decide +kernel
theorem dX10_blind_34 : decode cX10_blind 34 = .ok (.iaload, 1) := by decide +kernel
theorem dX10_blind_35 : decode cX10_blind 35 = .ok (.if_icmp .lt 9, 3) := by decide +kernel
theorem dX10_blind_38 : decode cX10_blind 38 = .ok (.iload_n 1, 1) := by decide +kernel
theorem dX10_blind_39 : decode cX10_blind 39 = .ok (.iconst 1, 1) := by decide +kernel
theorem dX10_blind_40 : decode cX10_blind 40 = .ok (.iload_n 2, 1) := by decide +kernel
theorem dX10_blind_41 : decode cX10_blind 41 = .ok (.ishl, 1) := by decide +kernel
theorem dX10_blind_42 : decode cX10_blind 42 = .ok (.ior, 1) := by decide +kernel
theorem dX10_blind_43 : decode cX10_blind 43 = .ok (.istore_n 1, 1) := by decide +kernel
theorem dX10_blind_44 : decode cX10_blind 44 = .ok (.iinc 2 1, 3) := by decide +kernel
theorem dX10_blind_47 : decode cX10_blind 47 = .ok (.goto (-43), 3) := by decide +kernel
theorem dX10_blind_50 : decode cX10_blind 50 = .ok (.iload_n 1, 1) := by decide +kernel
theorem dX10_blind_51 : decode cX10_blind 51 = .ok (.ireturn, 1) := by decide +kernel
theorem dX10_feed_0 : decode cX10_feed 0 = .ok (.iconst 0, 1) := by decide +kernel
theorem dX10_feed_1 : decode cX10_feed 1 = .ok (.istore_n 2, 1) := by decide +kernel
theorem dX10_feed_2 : decode cX10_feed 2 = .ok (.iload_n 2, 1) := by decide +kernel
theorem dX10_feed_3 : decode cX10_feed 3 = .ok (.iconst 4, 1) := by decide +kernel
theorem dX10_feed_4 : decode cX10_feed 4 = .ok (.if_icmp .ge 22, 3) := by decide +kernel
theorem dX10_feed_7 : decode cX10_feed 7 = .ok (.iload_n 1, 1) := by decide +kernel
theorem dX10_feed_8 : decode cX10_feed 8 = .ok (.bipush 8, 2) := by decide +kernel
theorem dX10_feed_10 : decode cX10_feed 10 = .ok (.iload_n 2, 1) := by decide +kernel
theorem dX10_feed_11 : decode cX10_feed 11 = .ok (.imul, 1) := by decide +kernel
theorem dX10_feed_12 : decode cX10_feed 12 = .ok (.iushr, 1) := by decide +kernel
theorem dX10_feed_13 : decode cX10_feed 13 = .ok (.sipush 255, 3) := by decide +kernel
theorem dX10_feed_16 : decode cX10_feed 16 = .ok (.iand, 1) := by decide +kernel
theorem dX10_feed_17 : decode cX10_feed 17 = .ok (.ifCond .eq 9, 3) := by decide +kernel
theorem dX10_feed_20 : decode cX10_feed 20 = .ok (.iinc 2 1, 3) := by decide +kernel
theorem dX10_feed_23 : decode cX10_feed 23 = .ok (.goto (-21), 3) := by decide +kernel
theorem dX10_feed_26 : decode cX10_feed 26 = .ok (.aload_n 0, 1) := by decide +kernel
theorem dX10_feed_27 : decode cX10_feed 27 = .ok (.getfield 175, 3) := by decide +kernel
theorem dX10_feed_30 : decode cX10_feed 30 = .ok (.iload_n 2, 1) := by decide +kernel
theorem dX10_feed_31 : decode cX10_feed 31 = .ok (.iadd, 1) := by decide +kernel
theorem dX10_feed_32 : decode cX10_feed 32 = .ok (.bipush 60, 2) := by decide +kernel
theorem dX10_feed_34 : decode cX10_feed 34 = .ok (.if_icmp .le 6, 3) := by decide +kernel
theorem dX10_feed_37 : decode cX10_feed 37 = .ok (.bipush (-2), 2) := by decide +kernel
theorem dX10_feed_39 : decode cX10_feed 39 = .ok (.ireturn, 1) := by decide +kernel
theorem dX10_feed_40 : decode cX10_feed 40 = .ok (.iconst 0, 1) := by decide +kernel
theorem dX10_feed_41 : decode cX10_feed 41 = .ok (.istore_n 3, 1) := by decide +kernel
theorem dX10_feed_42 : decode cX10_feed 42 = .ok (.iload_n 3, 1) := by decide +kernel
theorem dX10_feed_43 : decode cX10_feed 43 = .ok (.iload_n 2, 1) := by decide +kernel
theorem dX10_feed_44 : decode cX10_feed 44 = .ok (.if_icmp .ge 27, 3) := by decide +kernel
theorem dX10_feed_47 : decode cX10_feed 47 = .ok (.aload_n 0, 1) := by decide +kernel
theorem dX10_feed_48 : decode cX10_feed 48 = .ok (.getfield 34, 3) := by decide +kernel
theorem dX10_feed_51 : decode cX10_feed 51 = .ok (.aload_n 0, 1) := by decide +kernel
theorem dX10_feed_52 : decode cX10_feed 52 = .ok (.getfield 175, 3) := by decide +kernel
theorem dX10_feed_55 : decode cX10_feed 55 = .ok (.iload_n 3, 1) := by decide +kernel
theorem dX10_feed_56 : decode cX10_feed 56 = .ok (.iadd, 1) := by decide +kernel
theorem dX10_feed_57 : decode cX10_feed 57 = .ok (.iload_n 1, 1) := by decide +kernel
theorem dX10_feed_58 : decode cX10_feed 58 = .ok (.bipush 8, 2) := by decide +kernel
theorem dX10_feed_60 : decode cX10_feed 60 = .ok (.iload_n 3, 1) := by decide +kernel
theorem dX10_feed_61 : decode cX10_feed 61 = .ok (.imul, 1) := by decide +kernel
theorem dX10_feed_62 : decode cX10_feed 62 = .ok (.iushr, 1) := by decide +kernel
theorem dX10_feed_63 : decode cX10_feed 63 = .ok (.i2b, 1) := by decide +kernel
theorem dX10_feed_64 : decode cX10_feed 64 = .ok (.bastore, 1) := by decide +kernel
theorem dX10_feed_65 : decode cX10_feed 65 = .ok (.iinc 3 1, 3) := by decide +kernel
theorem dX10_feed_68 : decode cX10_feed 68 = .ok (.goto (-26), 3) := by decide +kernel
theorem dX10_feed_71 : decode cX10_feed 71 = .ok (.aload_n 0, 1) := by decide +kernel
theorem dX10_feed_72 : decode cX10_feed 72 = .ok (.dup, 1) := by decide +kernel
theorem dX10_feed_73 : decode cX10_feed 73 = .ok (.getfield 175, 3) := by decide +kernel
theorem dX10_feed_76 : decode cX10_feed 76 = .ok (.iload_n 2, 1) := by decide +kernel
theorem dX10_feed_77 : decode cX10_feed 77 = .ok (.iadd, 1) := by decide +kernel
theorem dX10_feed_78 : decode cX10_feed 78 = .ok (.putfield 175, 3) := by decide +kernel
theorem dX10_feed_81 : decode cX10_feed 81 = .ok (.aload_n 0, 1) := by decide +kernel
theorem dX10_feed_82 : decode cX10_feed 82 = .ok (.getfield 175, 3) := by decide +kernel
theorem dX10_feed_85 : decode cX10_feed 85 = .ok (.ireturn, 1) := by decide +kernel
theorem dX10_clear_0 : decode cX10_clear 0 = .ok (.aload_n 0, 1) := by decide +kernel
theorem dX10_clear_1 : decode cX10_clear 1 = .ok (.getfield 175, 3) := by decide +kernel
theorem dX10_clear_4 : decode cX10_clear 4 = .ok (.istore_n 1, 1) := by decide +kernel
theorem dX10_clear_5 : decode cX10_clear 5 = .ok (.aload_n 0, 1) := by decide +kernel
theorem dX10_clear_6 : decode cX10_clear 6 = .ok (.iconst 0, 1) := by decide +kernel
theorem dX10_clear_7 : decode cX10_clear 7 = .ok (.putfield 175, 3) := by decide +kernel
theorem dX10_clear_10 : decode cX10_clear 10 = .ok (.iload_n 1, 1) := by decide +kernel
theorem dX10_clear_11 : decode cX10_clear 11 = .ok (.ireturn, 1) := by decide +kernel
theorem dX10_isFigure_0 : decode cX10_isFigure 0 = .ok (.iload_n 0, 1) := by decide +kernel
theorem dX10_isFigure_1 : decode cX10_isFigure 1 = .ok (.bipush 48, 2) := by decide +kernel
theorem dX10_isFigure_3 : decode cX10_isFigure 3 = .ok (.if_icmp .lt 13, 3) := by decide +kernel
theorem dX10_isFigure_6 : decode cX10_isFigure 6 = .ok (.iload_n 0, 1) := by decide +kernel
theorem dX10_isFigure_7 : decode cX10_isFigure 7 = .ok (.bipush 57, 2) := by decide +kernel
theorem dX10_isFigure_9 : decode cX10_isFigure 9 = .ok (.if_icmp .gt 7, 3) := by decide +kernel
theorem dX10_isFigure_12 : decode cX10_isFigure 12 = .ok (.iconst 1, 1) := by decide +kernel
theorem dX10_isFigure_13 : decode cX10_isFigure 13 = .ok (.goto 4, 3) := by decide +kernel
theorem dX10_isFigure_16 : decode cX10_isFigure 16 = .ok (.iconst 0, 1) := by decide +kernel
theorem dX10_isFigure_17 : decode cX10_isFigure 17 = .ok (.ireturn, 1) := by decide +kernel
theorem dX10_isName_0 : decode cX10_isName 0 = .ok (.iload_n 0, 1) := by decide +kernel
theorem dX10_isName_1 : decode cX10_isName 1 = .ok (.bipush 116, 2) := by decide +kernel
theorem dX10_isName_3 : decode cX10_isName 3 = .ok (.if_icmp .eq 27, 3) := by decide +kernel
theorem dX10_isName_6 : decode cX10_isName 6 = .ok (.iload_n 0, 1) := by decide +kernel
theorem dX10_isName_7 : decode cX10_isName 7 = .ok (.bipush 104, 2) := by decide +kernel
theorem dX10_isName_9 : decode cX10_isName 9 = .ok (.if_icmp .eq 21, 3) := by decide +kernel
theorem dX10_isName_12 : decode cX10_isName 12 = .ok (.iload_n 0, 1) := by decide +kernel
theorem dX10_isName_13 : decode cX10_isName 13 = .ok (.bipush 119, 2) := by decide +kernel
theorem dX10_isName_15 : decode cX10_isName 15 = .ok (.if_icmp .eq 15, 3) := by decide +kernel
theorem dX10_isName_18 : decode cX10_isName 18 = .ok (.iload_n 0, 1) := by decide +kernel
theorem dX10_isName_19 : decode cX10_isName 19 = .ok (.bipush 108, 2) := by decide +kernel
theorem dX10_isName_21 : decode cX10_isName 21 = .ok (.if_icmp .eq 9, 3) := by decide +kernel
theorem dX10_isName_24 : decode cX10_isName 24 = .ok (.iload_n 0, 1) := by decide +kernel
theorem dX10_isName_25 : decode cX10_isName 25 = .ok (.bipush 114, 2) := by decide +kernel
theorem dX10_isName_27 : decode cX10_isName 27 = .ok (.if_icmp .ne 7, 3) := by decide +kernel
theorem dX10_isName_30 : decode cX10_isName 30 = .ok (.iconst 1, 1) := by decide +kernel
theorem dX10_isName_31 : decode cX10_isName 31 = .ok (.goto 4, 3) := by decide +kernel
theorem dX10_isName_34 : decode cX10_isName 34 = .ok (.iconst 0, 1) := by decide +kernel
theorem dX10_isName_35 : decode cX10_isName 35 = .ok (.ireturn, 1) := by decide +kernel
theorem dX10_faultOf_0 : decode cX10_faultOf 0 = .ok (.iconst 0, 1) := by decide +kernel
theorem dX10_faultOf_1 : decode cX10_faultOf 1 = .ok (.istore_n 1, 1) := by decide +kernel
theorem dX10_faultOf_2 : decode cX10_faultOf 2 = .ok (.iconst 1, 1) := by decide +kernel
theorem dX10_faultOf_3 : decode cX10_faultOf 3 = .ok (.istore_n 2, 1) := by decide +kernel
theorem dX10_faultOf_4 : decode cX10_faultOf 4 = .ok (.iconst 0, 1) := by decide +kernel
theorem dX10_faultOf_5 : decode cX10_faultOf 5 = .ok (.istore_n 3, 1) := by decide +kernel
theorem dX10_faultOf_6 : decode cX10_faultOf 6 = .ok (.iload_n 3, 1) := by decide +kernel
theorem dX10_faultOf_7 : decode cX10_faultOf 7 = .ok (.aload_n 0, 1) := by decide +kernel
theorem dX10_faultOf_8 : decode cX10_faultOf 8 = .ok (.getfield 175, 3) := by decide +kernel
theorem dX10_faultOf_11 : decode cX10_faultOf 11 = .ok (.if_icmp .ge 195, 3) := by decide +kernel
theorem dX10_faultOf_14 : decode cX10_faultOf 14 = .ok (.aload_n 0, 1) := by decide +kernel
theorem dX10_faultOf_15 : decode cX10_faultOf 15 = .ok (.getfield 34, 3) := by decide +kernel
theorem dX10_faultOf_18 : decode cX10_faultOf 18 = .ok (.iload_n 3, 1) := by decide +kernel
theorem dX10_faultOf_19 : decode cX10_faultOf 19 = .ok (.baload, 1) := by decide +kernel
theorem dX10_faultOf_20 : decode cX10_faultOf 20 = .ok (.istore 4, 2) := by decide +kernel
theorem dX10_faultOf_22 : decode cX10_faultOf 22 = .ok (.iload_n 2, 1) := by decide +kernel
theorem dX10_faultOf_23 : decode cX10_faultOf 23 = .ok (.ifCond .eq 42, 3) := by decide +kernel
theorem dX10_faultOf_26 : decode cX10_faultOf 26 = .ok (.iload 4, 2) := by decide +kernel
theorem dX10_faultOf_28 : decode cX10_faultOf 28 = .ok (.bipush 33, 2) := by decide +kernel
theorem dX10_faultOf_30 : decode cX10_faultOf 30 = .ok (.if_icmp .eq 10, 3) := by decide +kernel
theorem dX10_faultOf_33 : decode cX10_faultOf 33 = .ok (.iload 4, 2) := by decide +kernel
theorem dX10_faultOf_35 : decode cX10_faultOf 35 = .ok (.bipush 40, 2) := by decide +kernel
theorem dX10_faultOf_37 : decode cX10_faultOf 37 = .ok (.if_icmp .ne 28, 3) := by decide +kernel
theorem dX10_faultOf_40 : decode cX10_faultOf 40 = .ok (.iload_n 1, 1) := by decide +kernel
theorem dX10_faultOf_41 : decode cX10_faultOf 41 = .ok (.bipush 20, 2) := by decide +kernel
theorem dX10_faultOf_43 : decode cX10_faultOf 43 = .ok (.if_icmp .ne 5, 3) := by decide +kernel
theorem dX10_faultOf_46 : decode cX10_faultOf 46 = .ok (.iload_n 3, 1) := by decide +kernel
theorem dX10_faultOf_47 : decode cX10_faultOf 47 = .ok (.ireturn, 1) := by decide +kernel
theorem dX10_faultOf_48 : decode cX10_faultOf 48 = .ok (.aload_n 0, 1) := by decide +kernel
theorem dX10_faultOf_49 : decode cX10_faultOf 49 = .ok (.getfield 87, 3) := by decide +kernel
theorem dX10_faultOf_52 : decode cX10_faultOf 52 = .ok (.iload_n 1, 1) := by decide +kernel
theorem dX10_faultOf_53 : decode cX10_faultOf 53 = .ok (.iload 4, 2) := by decide +kernel
theorem dX10_faultOf_55 : decode cX10_faultOf 55 = .ok (.iastore, 1) := by decide +kernel
theorem dX10_faultOf_56 : decode cX10_faultOf 56 = .ok (.iinc 1 1, 3) := by decide +kernel
theorem dX10_faultOf_59 : decode cX10_faultOf 59 = .ok (.iinc 3 1, 3) := by decide +kernel
theorem dX10_faultOf_62 : decode cX10_faultOf 62 = .ok (.goto (-56), 3) := by decide +kernel
theorem dX10_faultOf_65 : decode cX10_faultOf 65 = .ok (.iload_n 2, 1) := by decide +kernel
theorem dX10_faultOf_66 : decode cX10_faultOf 66 = .ok (.ifCond .eq 66, 3) := by decide +kernel
theorem dX10_faultOf_69 : decode cX10_faultOf 69 = .ok (.iload 4, 2) := by decide +kernel
theorem dX10_faultOf_71 : decode cX10_faultOf 71 = .ok (.invokestatic 178, 3) := by decide +kernel
theorem dX10_faultOf_74 : decode cX10_faultOf 74 = .ok (.ifCond .ne 5, 3) := by decide +kernel
theorem dX10_faultOf_77 : decode cX10_faultOf 77 = .ok (.iload_n 3, 1) := by decide +kernel
theorem dX10_faultOf_78 : decode cX10_faultOf 78 = .ok (.ireturn, 1) := by decide +kernel
theorem dX10_faultOf_79 : decode cX10_faultOf 79 = .ok (.iinc 3 1, 3) := by decide +kernel
theorem dX10_faultOf_82 : decode cX10_faultOf 82 = .ok (.iconst 0, 1) := by decide +kernel
theorem dX10_faultOf_83 : decode cX10_faultOf 83 = .ok (.istore 5, 2) := by decide +kernel
theorem dX10_faultOf_85 : decode cX10_faultOf 85 = .ok (.iload_n 3, 1) := by decide +kernel
theorem dX10_faultOf_86 : decode cX10_faultOf 86 = .ok (.aload_n 0, 1) := by decide +kernel
theorem dX10_faultOf_87 : decode cX10_faultOf 87 = .ok (.getfield 175, 3) := by decide +kernel
theorem dX10_faultOf_90 : decode cX10_faultOf 90 = .ok (.if_icmp .ge 30, 3) := by decide +kernel
theorem dX10_faultOf_93 : decode cX10_faultOf 93 = .ok (.iload 5, 2) := by decide +kernel
theorem dX10_faultOf_95 : decode cX10_faultOf 95 = .ok (.iconst 3, 1) := by decide +kernel
theorem dX10_faultOf_96 : decode cX10_faultOf 96 = .ok (.if_icmp .ge 24, 3) := by decide +kernel
theorem dX10_faultOf_99 : decode cX10_faultOf 99 = .ok (.aload_n 0, 1) := by decide +kernel
theorem dX10_faultOf_100 : decode cX10_faultOf 100 = .ok (.getfield 34, 3) := by decide +kernel
theorem dX10_faultOf_103 : decode cX10_faultOf 103 = .ok (.iload_n 3, 1) := by decide +kernel
theorem dX10_faultOf_104 : decode cX10_faultOf 104 = .ok (.baload, 1) := by decide +kernel
theorem dX10_faultOf_105 : decode cX10_faultOf 105 = .ok (.invokestatic 181, 3) := by decide +kernel
theorem dX10_faultOf_108 : decode cX10_faultOf 108 = .ok (.ifCond .eq 12, 3) := by decide +kernel
theorem dX10_faultOf_111 : decode cX10_faultOf 111 = .ok (.iinc 5 1, 3) := by decide +kernel
theorem dX10_faultOf_114 : decode cX10_faultOf 114 = .ok (.iinc 3 1, 3) := by decide +kernel
theorem dX10_faultOf_117 : decode cX10_faultOf 117 = .ok (.goto (-32), 3) := by decide +kernel
theorem dX10_faultOf_120 : decode cX10_faultOf 120 = .ok (.iload 5, 2) := by decide +kernel
theorem dX10_faultOf_122 : decode cX10_faultOf 122 = .ok (.ifCond .ne 5, 3) := by decide +kernel
theorem dX10_faultOf_125 : decode cX10_faultOf 125 = .ok (.iload_n 3, 1) := by decide +kernel
theorem dX10_faultOf_126 : decode cX10_faultOf 126 = .ok (.ireturn, 1) := by decide +kernel
theorem dX10_faultOf_127 : decode cX10_faultOf 127 = .ok (.iconst 0, 1) := by decide +kernel
theorem dX10_faultOf_128 : decode cX10_faultOf 128 = .ok (.istore_n 2, 1) := by decide +kernel
theorem dX10_faultOf_129 : decode cX10_faultOf 129 = .ok (.goto 47, 3) := by decide +kernel
theorem dX10_faultOf_132 : decode cX10_faultOf 132 = .ok (.iload 4, 2) := by decide +kernel
theorem dX10_faultOf_134 : decode cX10_faultOf 134 = .ok (.bipush 124, 2) := by decide +kernel
theorem dX10_faultOf_136 : decode cX10_faultOf 136 = .ok (.if_icmp .eq 10, 3) := by decide +kernel
theorem dX10_faultOf_139 : decode cX10_faultOf 139 = .ok (.iload 4, 2) := by decide +kernel
theorem dX10_faultOf_141 : decode cX10_faultOf 141 = .ok (.bipush 38, 2) := by decide +kernel
theorem dX10_faultOf_143 : decode cX10_faultOf 143 = .ok (.if_icmp .ne 11, 3) := by decide +kernel
theorem dX10_faultOf_146 : decode cX10_faultOf 146 = .ok (.iconst 1, 1) := by decide +kernel
theorem dX10_faultOf_147 : decode cX10_faultOf 147 = .ok (.istore_n 2, 1) := by decide +kernel
theorem dX10_faultOf_148 : decode cX10_faultOf 148 = .ok (.iinc 3 1, 3) := by decide +kernel
theorem dX10_faultOf_151 : decode cX10_faultOf 151 = .ok (.goto 25, 3) := by decide +kernel
theorem dX10_faultOf_154 : decode cX10_faultOf 154 = .ok (.iload 4, 2) := by decide +kernel
theorem dX10_faultOf_156 : decode cX10_faultOf 156 = .ok (.bipush 41, 2) := by decide +kernel
theorem dX10_faultOf_158 : decode cX10_faultOf 158 = .ok (.if_icmp .ne 16, 3) := by decide +kernel
theorem dX10_faultOf_161 : decode cX10_faultOf 161 = .ok (.iload_n 1, 1) := by decide +kernel
theorem dX10_faultOf_162 : decode cX10_faultOf 162 = .ok (.ifCond .le 12, 3) := by decide +kernel
theorem dX10_faultOf_165 : decode cX10_faultOf 165 = .ok (.iinc 1 (-1), 3) := by decide +kernel
theorem dX10_faultOf_168 : decode cX10_faultOf 168 = .ok (.iinc 3 1, 3) := by decide +kernel
theorem dX10_faultOf_171 : decode cX10_faultOf 171 = .ok (.goto 5, 3) := by decide +kernel
theorem dX10_faultOf_174 : decode cX10_faultOf 174 = .ok (.iload_n 3, 1) := by decide +kernel
theorem dX10_faultOf_175 : decode cX10_faultOf 175 = .ok (.ireturn, 1) := by decide +kernel
theorem dX10_faultOf_176 : decode cX10_faultOf 176 = .ok (.iload_n 2, 1) := by decide +kernel
theorem dX10_faultOf_177 : decode cX10_faultOf 177 = .ok (.ifCond .ne 26, 3) := by decide +kernel
theorem dX10_faultOf_180 : decode cX10_faultOf 180 = .ok (.iload_n 1, 1) := by decide +kernel
theorem dX10_faultOf_181 : decode cX10_faultOf 181 = .ok (.ifCond .le 22, 3) := by decide +kernel
theorem dX10_faultOf_184 : decode cX10_faultOf 184 = .ok (.aload_n 0, 1) := by decide +kernel
theorem dX10_faultOf_185 : decode cX10_faultOf 185 = .ok (.getfield 87, 3) := by decide +kernel
theorem dX10_faultOf_188 : decode cX10_faultOf 188 = .ok (.iload_n 1, 1) := by decide +kernel
theorem dX10_faultOf_189 : decode cX10_faultOf 189 = .ok (.iconst 1, 1) := by decide +kernel
theorem dX10_faultOf_190 : decode cX10_faultOf 190 = .ok (.isub, 1) := by decide +kernel
theorem dX10_faultOf_191 : decode cX10_faultOf 191 = .ok (.iaload, 1) := by decide +kernel
theorem dX10_faultOf_192 : decode cX10_faultOf 192 = .ok (.bipush 33, 2) := by decide +kernel
theorem dX10_faultOf_194 : decode cX10_faultOf 194 = .ok (.if_icmp .ne 9, 3) := by decide +kernel
theorem dX10_faultOf_197 : decode cX10_faultOf 197 = .ok (.iinc 1 (-1), 3) := by decide +kernel
theorem dX10_faultOf_200 : decode cX10_faultOf 200 = .ok (.goto (-24), 3) := by decide +kernel
theorem dX10_faultOf_203 : decode cX10_faultOf 203 = .ok (.goto (-197), 3) := by decide +kernel
theorem dX10_faultOf_206 : decode cX10_faultOf 206 = .ok (.iload_n 2, 1) := by decide +kernel
theorem dX10_faultOf_207 : decode cX10_faultOf 207 = .ok (.ifCond .ne 7, 3) := by decide +kernel
theorem dX10_faultOf_210 : decode cX10_faultOf 210 = .ok (.iload_n 1, 1) := by decide +kernel
theorem dX10_faultOf_211 : decode cX10_faultOf 211 = .ok (.ifCond .le 10, 3) := by decide +kernel
theorem dX10_faultOf_214 : decode cX10_faultOf 214 = .ok (.aload_n 0, 1) := by decide +kernel
theorem dX10_faultOf_215 : decode cX10_faultOf 215 = .ok (.getfield 175, 3) := by decide +kernel
theorem dX10_faultOf_218 : decode cX10_faultOf 218 = .ok (.goto 4, 3) := by decide +kernel
theorem dX10_faultOf_221 : decode cX10_faultOf 221 = .ok (.iconst (-1), 1) := by decide +kernel
theorem dX10_faultOf_222 : decode cX10_faultOf 222 = .ok (.ireturn, 1) := by decide +kernel
theorem dX10_line_0 : decode cX10_line 0 = .ok (.iload_n 1, 1) := by decide +kernel
theorem dX10_line_1 : decode cX10_line 1 = .ok (.i2l, 1) := by decide +kernel
theorem dX10_line_2 : decode cX10_line 2 = .ok (.lconst 1, 1) := by decide +kernel
theorem dX10_line_3 : decode cX10_line 3 = .ok (.ldc2_w 184, 3) := by decide +kernel
theorem dX10_line_6 : decode cX10_line 6 = .ok (.invokestatic 95, 3) := by decide +kernel
theorem dX10_line_9 : decode cX10_line 9 = .ok (.ifCond .ne 5, 3) := by decide +kernel
theorem dX10_line_12 : decode cX10_line 12 = .ok (.iconst (-1), 1) := by decide +kernel
theorem dX10_line_13 : decode cX10_line 13 = .ok (.ireturn, 1) := by decide +kernel
theorem dX10_line_14 : decode cX10_line 14 = .ok (.aload_n 0, 1) := by decide +kernel
theorem dX10_line_15 : decode cX10_line 15 = .ok (.getfield 186, 3) := by decide +kernel
theorem dX10_line_18 : decode cX10_line 18 = .ok (.bipush 8, 2) := by decide +kernel
theorem dX10_line_20 : decode cX10_line 20 = .ok (.if_icmp .ne 6, 3) := by decide +kernel
theorem dX10_line_23 : decode cX10_line 23 = .ok (.bipush (-2), 2) := by decide +kernel
theorem dX10_line_25 : decode cX10_line 25 = .ok (.ireturn, 1) := by decide +kernel
theorem dX10_line_26 : decode cX10_line 26 = .ok (.aload_n 0, 1) := by decide +kernel
theorem dX10_line_27 : decode cX10_line 27 = .ok (.invokevirtual 189, 3) := by decide +kernel
theorem dX10_line_30 : decode cX10_line 30 = .ok (.istore_n 3, 1) := by decide +kernel
theorem dX10_line_31 : decode cX10_line 31 = .ok (.iload_n 3, 1) := by decide +kernel
theorem dX10_line_32 : decode cX10_line 32 = .ok (.ifCond .lt 8, 3) := by decide +kernel
theorem dX10_line_35 : decode cX10_line 35 = .ok (.bipush (-100), 2) := by decide +kernel
theorem dX10_line_37 : decode cX10_line 37 = .ok (.iload_n 3, 1) := by decide +kernel
theorem dX10_line_38 : decode cX10_line 38 = .ok (.isub, 1) := by decide +kernel
theorem dX10_line_39 : decode cX10_line 39 = .ok (.ireturn, 1) := by decide +kernel
theorem dX10_line_40 : decode cX10_line 40 = .ok (.iconst 0, 1) := by decide +kernel
theorem dX10_line_41 : decode cX10_line 41 = .ok (.istore 4, 2) := by decide +kernel
theorem dX10_line_43 : decode cX10_line 43 = .ok (.iload 4, 2) := by decide +kernel
theorem dX10_line_45 : decode cX10_line 45 = .ok (.aload_n 0, 1) := by decide +kernel
theorem dX10_line_46 : decode cX10_line 46 = .ok (.getfield 175, 3) := by decide +kernel
theorem dX10_line_49 : decode cX10_line 49 = .ok (.if_icmp .ge 31, 3) := by decide +kernel
theorem dX10_line_52 : decode cX10_line 52 = .ok (.aload_n 0, 1) := by decide +kernel
theorem dX10_line_53 : decode cX10_line 53 = .ok (.getfield 38, 3) := by decide +kernel
theorem dX10_line_56 : decode cX10_line 56 = .ok (.bipush 60, 2) := by decide +kernel
theorem dX10_line_58 : decode cX10_line 58 = .ok (.aload_n 0, 1) := by decide +kernel
theorem dX10_line_59 : decode cX10_line 59 = .ok (.getfield 186, 3) := by decide +kernel
theorem dX10_line_62 : decode cX10_line 62 = .ok (.imul, 1) := by decide +kernel
theorem dX10_line_63 : decode cX10_line 63 = .ok (.iload 4, 2) := by decide +kernel
theorem dX10_line_65 : decode cX10_line 65 = .ok (.iadd, 1) := by decide +kernel
theorem dX10_line_66 : decode cX10_line 66 = .ok (.aload_n 0, 1) := by decide +kernel
theorem dX10_line_67 : decode cX10_line 67 = .ok (.getfield 34, 3) := by decide +kernel
theorem dX10_line_70 : decode cX10_line 70 = .ok (.iload 4, 2) := by decide +kernel
theorem dX10_line_72 : decode cX10_line 72 = .ok (.baload, 1) := by decide +kernel
theorem dX10_line_73 : decode cX10_line 73 = .ok (.bastore, 1) := by decide +kernel
theorem dX10_line_74 : decode cX10_line 74 = .ok (.iinc 4 1, 3) := by decide +kernel
theorem dX10_line_77 : decode cX10_line 77 = .ok (.goto (-34), 3) := by decide +kernel
theorem dX10_line_80 : decode cX10_line 80 = .ok (.aload_n 0, 1) := by decide +kernel
theorem dX10_line_81 : decode cX10_line 81 = .ok (.getfield 41, 3) := by decide +kernel
theorem dX10_line_84 : decode cX10_line 84 = .ok (.aload_n 0, 1) := by decide +kernel
theorem dX10_line_85 : decode cX10_line 85 = .ok (.getfield 186, 3) := by decide +kernel
theorem dX10_line_88 : decode cX10_line 88 = .ok (.aload_n 0, 1) := by decide +kernel
theorem dX10_line_89 : decode cX10_line 89 = .ok (.getfield 175, 3) := by decide +kernel
theorem dX10_line_92 : decode cX10_line 92 = .ok (.iastore, 1) := by decide +kernel
theorem dX10_line_93 : decode cX10_line 93 = .ok (.aload_n 0, 1) := by decide +kernel
theorem dX10_line_94 : decode cX10_line 94 = .ok (.getfield 44, 3) := by decide +kernel
theorem dX10_line_97 : decode cX10_line 97 = .ok (.aload_n 0, 1) := by decide +kernel
theorem dX10_line_98 : decode cX10_line 98 = .ok (.getfield 186, 3) := by decide +kernel
theorem dX10_line_101 : decode cX10_line 101 = .ok (.iload_n 1, 1) := by decide +kernel
theorem dX10_line_102 : decode cX10_line 102 = .ok (.iastore, 1) := by decide +kernel
theorem dX10_line_103 : decode cX10_line 103 = .ok (.aload_n 0, 1) := by decide +kernel
theorem dX10_line_104 : decode cX10_line 104 = .ok (.getfield 47, 3) := by decide +kernel
theorem dX10_line_107 : decode cX10_line 107 = .ok (.aload_n 0, 1) := by decide +kernel
theorem dX10_line_108 : decode cX10_line 108 = .ok (.getfield 186, 3) := by decide +kernel
theorem dX10_line_111 : decode cX10_line 111 = .ok (.iload_n 2, 1) := by decide +kernel
theorem dX10_line_112 : decode cX10_line 112 = .ok (.bastore, 1) := by decide +kernel
theorem dX10_line_113 : decode cX10_line 113 = .ok (.aload_n 0, 1) := by decide +kernel
theorem dX10_line_114 : decode cX10_line 114 = .ok (.getfield 51, 3) := by decide +kernel
theorem dX10_line_117 : decode cX10_line 117 = .ok (.aload_n 0, 1) := by decide +kernel
theorem dX10_line_118 : decode cX10_line 118 = .ok (.getfield 186, 3) := by decide +kernel
theorem dX10_line_121 : decode cX10_line 121 = .ok (.iconst 0, 1) := by decide +kernel
theorem dX10_line_122 : decode cX10_line 122 = .ok (.iastore, 1) := by decide +kernel
theorem dX10_line_123 : decode cX10_line 123 = .ok (.aload_n 0, 1) := by decide +kernel
theorem dX10_line_124 : decode cX10_line 124 = .ok (.getfield 54, 3) := by decide +kernel
theorem dX10_line_127 : decode cX10_line 127 = .ok (.aload_n 0, 1) := by decide +kernel
theorem dX10_line_128 : decode cX10_line 128 = .ok (.getfield 186, 3) := by decide +kernel
theorem dX10_line_131 : decode cX10_line 131 = .ok (.iconst 0, 1) := by decide +kernel
theorem dX10_line_132 : decode cX10_line 132 = .ok (.iastore, 1) := by decide +kernel
theorem dX10_line_133 : decode cX10_line 133 = .ok (.aload_n 0, 1) := by decide +kernel
theorem dX10_line_134 : decode cX10_line 134 = .ok (.getfield 57, 3) := by decide +kernel
theorem dX10_line_137 : decode cX10_line 137 = .ok (.aload_n 0, 1) := by decide +kernel
theorem dX10_line_138 : decode cX10_line 138 = .ok (.getfield 186, 3) := by decide +kernel
theorem dX10_line_141 : decode cX10_line 141 = .ok (.iconst 0, 1) := by decide +kernel
theorem dX10_line_142 : decode cX10_line 142 = .ok (.iastore, 1) := by decide +kernel
theorem dX10_line_143 : decode cX10_line 143 = .ok (.aload_n 0, 1) := by decide +kernel
theorem dX10_line_144 : decode cX10_line 144 = .ok (.getfield 60, 3) := by decide +kernel
theorem dX10_line_147 : decode cX10_line 147 = .ok (.aload_n 0, 1) := by decide +kernel
theorem dX10_line_148 : decode cX10_line 148 = .ok (.getfield 186, 3) := by decide +kernel
theorem dX10_line_151 : decode cX10_line 151 = .ok (.iconst 0, 1) := by decide +kernel
theorem dX10_line_152 : decode cX10_line 152 = .ok (.iastore, 1) := by decide +kernel
theorem dX10_line_153 : decode cX10_line 153 = .ok (.aload_n 0, 1) := by decide +kernel
theorem dX10_line_154 : decode cX10_line 154 = .ok (.iconst 0, 1) := by decide +kernel
theorem dX10_line_155 : decode cX10_line 155 = .ok (.putfield 175, 3) := by decide +kernel
theorem dX10_line_158 : decode cX10_line 158 = .ok (.aload_n 0, 1) := by decide +kernel
theorem dX10_line_159 : decode cX10_line 159 = .ok (.dup, 1) := by decide +kernel
theorem dX10_line_160 : decode cX10_line 160 = .ok (.getfield 186, 3) := by decide +kernel
theorem dX10_line_163 : decode cX10_line 163 = .ok (.iconst 1, 1) := by decide +kernel
theorem dX10_line_164 : decode cX10_line 164 = .ok (.iadd, 1) := by decide +kernel
theorem dX10_line_165 : decode cX10_line 165 = .ok (.putfield 186, 3) := by decide +kernel
theorem dX10_line_168 : decode cX10_line 168 = .ok (.aload_n 0, 1) := by decide +kernel
theorem dX10_line_169 : decode cX10_line 169 = .ok (.getfield 186, 3) := by decide +kernel
theorem dX10_line_172 : decode cX10_line 172 = .ok (.iconst 1, 1) := by decide +kernel
theorem dX10_line_173 : decode cX10_line 173 = .ok (.isub, 1) := by decide +kernel
theorem dX10_line_174 : decode cX10_line 174 = .ok (.ireturn, 1) := by decide +kernel
theorem dX10_isLine_0 : decode cX10_isLine 0 = .ok (.iload_n 1, 1) := by decide +kernel
theorem dX10_isLine_1 : decode cX10_isLine 1 = .ok (.i2l, 1) := by decide +kernel
theorem dX10_isLine_2 : decode cX10_isLine 2 = .ok (.lconst 0, 1) := by decide +kernel
theorem dX10_isLine_3 : decode cX10_isLine 3 = .ok (.aload_n 0, 1) := by decide +kernel
theorem dX10_isLine_4 : decode cX10_isLine 4 = .ok (.getfield 186, 3) := by decide +kernel
theorem dX10_isLine_7 : decode cX10_isLine 7 = .ok (.iconst 1, 1) := by decide +kernel
theorem dX10_isLine_8 : decode cX10_isLine 8 = .ok (.isub, 1) := by decide +kernel
theorem dX10_isLine_9 : decode cX10_isLine 9 = .ok (.i2l, 1) := by decide +kernel
theorem dX10_isLine_10 : decode cX10_isLine 10 = .ok (.invokestatic 95, 3) := by decide +kernel
theorem dX10_isLine_13 : decode cX10_isLine 13 = .ok (.ireturn, 1) := by decide +kernel
theorem dX10_thin_0 : decode cX10_thin 0 = .ok (.aload_n 0, 1) := by decide +kernel
theorem dX10_thin_1 : decode cX10_thin 1 = .ok (.iload_n 1, 1) := by decide +kernel
theorem dX10_thin_2 : decode cX10_thin 2 = .ok (.invokevirtual 192, 3) := by decide +kernel
theorem dX10_thin_5 : decode cX10_thin 5 = .ok (.ifCond .eq 15, 3) := by decide +kernel
theorem dX10_thin_8 : decode cX10_thin 8 = .ok (.iload_n 2, 1) := by decide +kernel
theorem dX10_thin_9 : decode cX10_thin 9 = .ok (.i2l, 1) := by decide +kernel
theorem dX10_thin_10 : decode cX10_thin 10 = .ok (.lconst 1, 1) := by decide +kernel
theorem dX10_thin_11 : decode cX10_thin 11 = .ok (.ldc2_w 184, 3) := by decide +kernel
theorem dX10_thin_14 : decode cX10_thin 14 = .ok (.invokestatic 95, 3) := by decide +kernel
theorem dX10_thin_17 : decode cX10_thin 17 = .ok (.ifCond .ne 5, 3) := by decide +kernel
theorem dX10_thin_20 : decode cX10_thin 20 = .ok (.iconst (-1), 1) := by decide +kernel
theorem dX10_thin_21 : decode cX10_thin 21 = .ok (.ireturn, 1) := by decide +kernel
theorem dX10_thin_22 : decode cX10_thin 22 = .ok (.aload_n 0, 1) := by decide +kernel
theorem dX10_thin_23 : decode cX10_thin 23 = .ok (.getfield 44, 3) := by decide +kernel
theorem dX10_thin_26 : decode cX10_thin 26 = .ok (.iload_n 1, 1) := by decide +kernel
theorem dX10_thin_27 : decode cX10_thin 27 = .ok (.iaload, 1) := by decide +kernel
theorem dX10_thin_28 : decode cX10_thin 28 = .ok (.istore_n 3, 1) := by decide +kernel
theorem dX10_thin_29 : decode cX10_thin 29 = .ok (.aload_n 0, 1) := by decide +kernel
theorem dX10_thin_30 : decode cX10_thin 30 = .ok (.getfield 44, 3) := by decide +kernel
theorem dX10_thin_33 : decode cX10_thin 33 = .ok (.iload_n 1, 1) := by decide +kernel
theorem dX10_thin_34 : decode cX10_thin 34 = .ok (.iload_n 2, 1) := by decide +kernel
theorem dX10_thin_35 : decode cX10_thin 35 = .ok (.iastore, 1) := by decide +kernel
theorem dX10_thin_36 : decode cX10_thin 36 = .ok (.iload_n 3, 1) := by decide +kernel
theorem dX10_thin_37 : decode cX10_thin 37 = .ok (.ireturn, 1) := by decide +kernel
theorem dX10_letter_0 : decode cX10_letter 0 = .ok (.aload_n 0, 1) := by decide +kernel
theorem dX10_letter_1 : decode cX10_letter 1 = .ok (.getfield 195, 3) := by decide +kernel
theorem dX10_letter_4 : decode cX10_letter 4 = .ok (.aload_n 0, 1) := by decide +kernel
theorem dX10_letter_5 : decode cX10_letter 5 = .ok (.getfield 41, 3) := by decide +kernel
theorem dX10_letter_8 : decode cX10_letter 8 = .ok (.aload_n 0, 1) := by decide +kernel
theorem dX10_letter_9 : decode cX10_letter 9 = .ok (.getfield 198, 3) := by decide +kernel
theorem dX10_letter_12 : decode cX10_letter 12 = .ok (.iaload, 1) := by decide +kernel
theorem dX10_letter_13 : decode cX10_letter 13 = .ok (.if_icmp .ge 23, 3) := by decide +kernel
theorem dX10_letter_16 : decode cX10_letter 16 = .ok (.aload_n 0, 1) := by decide +kernel
theorem dX10_letter_17 : decode cX10_letter 17 = .ok (.getfield 38, 3) := by decide +kernel
theorem dX10_letter_20 : decode cX10_letter 20 = .ok (.bipush 60, 2) := by decide +kernel
theorem dX10_letter_22 : decode cX10_letter 22 = .ok (.aload_n 0, 1) := by decide +kernel
theorem dX10_letter_23 : decode cX10_letter 23 = .ok (.getfield 198, 3) := by decide +kernel
theorem dX10_letter_26 : decode cX10_letter 26 = .ok (.imul, 1) := by decide +kernel
theorem dX10_letter_27 : decode cX10_letter 27 = .ok (.aload_n 0, 1) := by decide +kernel
theorem dX10_letter_28 : decode cX10_letter 28 = .ok (.getfield 195, 3) := by decide +kernel
theorem dX10_letter_31 : decode cX10_letter 31 = .ok (.iadd, 1) := by decide +kernel
theorem dX10_letter_32 : decode cX10_letter 32 = .ok (.baload, 1) := by decide +kernel
theorem dX10_letter_33 : decode cX10_letter 33 = .ok (.goto 4, 3) := by decide +kernel
theorem dX10_letter_36 : decode cX10_letter 36 = .ok (.iconst 0, 1) := by decide +kernel
theorem dX10_letter_37 : decode cX10_letter 37 = .ok (.ireturn, 1) := by decide +kernel
theorem dX10_any_0 : decode cX10_any 0 = .ok (.aload_n 0, 1) := by decide +kernel
theorem dX10_any_1 : decode cX10_any 1 = .ok (.invokevirtual 201, 3) := by decide +kernel
theorem dX10_any_4 : decode cX10_any 4 = .ok (.istore_n 1, 1) := by decide +kernel
theorem dX10_any_5 : decode cX10_any 5 = .ok (.aload_n 0, 1) := by decide +kernel
theorem dX10_any_6 : decode cX10_any 6 = .ok (.invokevirtual 205, 3) := by decide +kernel
theorem dX10_any_9 : decode cX10_any 9 = .ok (.bipush 124, 2) := by decide +kernel
theorem dX10_any_11 : decode cX10_any 11 = .ok (.if_icmp .ne 35, 3) := by decide +kernel
theorem dX10_any_14 : decode cX10_any 14 = .ok (.aload_n 0, 1) := by decide +kernel
theorem dX10_any_15 : decode cX10_any 15 = .ok (.dup, 1) := by decide +kernel
theorem dX10_any_16 : decode cX10_any 16 = .ok (.getfield 195, 3) := by decide +kernel
theorem dX10_any_19 : decode cX10_any 19 = .ok (.iconst 1, 1) := by decide +kernel
theorem dX10_any_20 : decode cX10_any 20 = .ok (.iadd, 1) := by decide +kernel
theorem dX10_any_21 : decode cX10_any 21 = .ok (.putfield 195, 3) := by decide +kernel
theorem dX10_any_24 : decode cX10_any 24 = .ok (.aload_n 0, 1) := by decide +kernel
theorem dX10_any_25 : decode cX10_any 25 = .ok (.invokevirtual 201, 3) := by decide +kernel
theorem dX10_any_28 : decode cX10_any 28 = .ok (.istore_n 2, 1) := by decide +kernel
theorem dX10_any_29 : decode cX10_any 29 = .ok (.iload_n 1, 1) := by decide +kernel
theorem dX10_any_30 : decode cX10_any 30 = .ok (.ifCond .ne 7, 3) := by decide +kernel
theorem dX10_any_33 : decode cX10_any 33 = .ok (.iload_n 2, 1) := by decide +kernel
theorem dX10_any_34 : decode cX10_any 34 = .ok (.ifCond .eq 7, 3) := by decide +kernel
theorem dX10_any_37 : decode cX10_any 37 = .ok (.iconst 1, 1) := by decide +kernel
theorem dX10_any_38 : decode cX10_any 38 = .ok (.goto 4, 3) := by decide +kernel
theorem dX10_any_41 : decode cX10_any 41 = .ok (.iconst 0, 1) := by decide +kernel
theorem dX10_any_42 : decode cX10_any 42 = .ok (.istore_n 1, 1) := by decide +kernel
theorem dX10_any_43 : decode cX10_any 43 = .ok (.goto (-38), 3) := by decide +kernel
theorem dX10_any_46 : decode cX10_any 46 = .ok (.iload_n 1, 1) := by decide +kernel
theorem dX10_any_47 : decode cX10_any 47 = .ok (.ireturn, 1) := by decide +kernel
theorem dX10_both_0 : decode cX10_both 0 = .ok (.aload_n 0, 1) := by decide +kernel
theorem dX10_both_1 : decode cX10_both 1 = .ok (.invokevirtual 208, 3) := by decide +kernel
theorem dX10_both_4 : decode cX10_both 4 = .ok (.istore_n 1, 1) := by decide +kernel
theorem dX10_both_5 : decode cX10_both 5 = .ok (.aload_n 0, 1) := by decide +kernel
theorem dX10_both_6 : decode cX10_both 6 = .ok (.invokevirtual 205, 3) := by decide +kernel
theorem dX10_both_9 : decode cX10_both 9 = .ok (.bipush 38, 2) := by decide +kernel
theorem dX10_both_11 : decode cX10_both 11 = .ok (.if_icmp .ne 35, 3) := by decide +kernel
theorem dX10_both_14 : decode cX10_both 14 = .ok (.aload_n 0, 1) := by decide +kernel
theorem dX10_both_15 : decode cX10_both 15 = .ok (.dup, 1) := by decide +kernel
theorem dX10_both_16 : decode cX10_both 16 = .ok (.getfield 195, 3) := by decide +kernel
theorem dX10_both_19 : decode cX10_both 19 = .ok (.iconst 1, 1) := by decide +kernel
theorem dX10_both_20 : decode cX10_both 20 = .ok (.iadd, 1) := by decide +kernel
theorem dX10_both_21 : decode cX10_both 21 = .ok (.putfield 195, 3) := by decide +kernel
theorem dX10_both_24 : decode cX10_both 24 = .ok (.aload_n 0, 1) := by decide +kernel
theorem dX10_both_25 : decode cX10_both 25 = .ok (.invokevirtual 208, 3) := by decide +kernel
theorem dX10_both_28 : decode cX10_both 28 = .ok (.istore_n 2, 1) := by decide +kernel
theorem dX10_both_29 : decode cX10_both 29 = .ok (.iload_n 1, 1) := by decide +kernel
theorem dX10_both_30 : decode cX10_both 30 = .ok (.ifCond .eq 11, 3) := by decide +kernel
theorem dX10_both_33 : decode cX10_both 33 = .ok (.iload_n 2, 1) := by decide +kernel
theorem dX10_both_34 : decode cX10_both 34 = .ok (.ifCond .eq 7, 3) := by decide +kernel
theorem dX10_both_37 : decode cX10_both 37 = .ok (.iconst 1, 1) := by decide +kernel
theorem dX10_both_38 : decode cX10_both 38 = .ok (.goto 4, 3) := by decide +kernel
theorem dX10_both_41 : decode cX10_both 41 = .ok (.iconst 0, 1) := by decide +kernel
theorem dX10_both_42 : decode cX10_both 42 = .ok (.istore_n 1, 1) := by decide +kernel
theorem dX10_both_43 : decode cX10_both 43 = .ok (.goto (-38), 3) := by decide +kernel
theorem dX10_both_46 : decode cX10_both 46 = .ok (.iload_n 1, 1) := by decide +kernel
theorem dX10_both_47 : decode cX10_both 47 = .ok (.ireturn, 1) := by decide +kernel
theorem dX10_one_0 : decode cX10_one 0 = .ok (.aload_n 0, 1) := by decide +kernel
theorem dX10_one_1 : decode cX10_one 1 = .ok (.invokevirtual 205, 3) := by decide +kernel
theorem dX10_one_4 : decode cX10_one 4 = .ok (.istore_n 1, 1) := by decide +kernel
theorem dX10_one_5 : decode cX10_one 5 = .ok (.aload_n 0, 1) := by decide +kernel
theorem dX10_one_6 : decode cX10_one 6 = .ok (.dup, 1) := by decide +kernel
theorem dX10_one_7 : decode cX10_one 7 = .ok (.getfield 195, 3) := by decide +kernel
theorem dX10_one_10 : decode cX10_one 10 = .ok (.iconst 1, 1) := by decide +kernel
theorem dX10_one_11 : decode cX10_one 11 = .ok (.iadd, 1) := by decide +kernel
theorem dX10_one_12 : decode cX10_one 12 = .ok (.putfield 195, 3) := by decide +kernel
theorem dX10_one_15 : decode cX10_one 15 = .ok (.iload_n 1, 1) := by decide +kernel
theorem dX10_one_16 : decode cX10_one 16 = .ok (.bipush 33, 2) := by decide +kernel
theorem dX10_one_18 : decode cX10_one 18 = .ok (.if_icmp .ne 16, 3) := by decide +kernel
theorem dX10_one_21 : decode cX10_one 21 = .ok (.aload_n 0, 1) := by decide +kernel
theorem dX10_one_22 : decode cX10_one 22 = .ok (.invokevirtual 208, 3) := by decide +kernel
theorem dX10_one_25 : decode cX10_one 25 = .ok (.ifCond .ne 7, 3) := by decide +kernel
theorem dX10_one_28 : decode cX10_one 28 = .ok (.iconst 1, 1) := by decide +kernel
theorem dX10_one_29 : decode cX10_one 29 = .ok (.goto 4, 3) := by decide +kernel
theorem dX10_one_32 : decode cX10_one 32 = .ok (.iconst 0, 1) := by decide +kernel
theorem dX10_one_33 : decode cX10_one 33 = .ok (.ireturn, 1) := by decide +kernel
theorem dX10_one_34 : decode cX10_one 34 = .ok (.iload_n 1, 1) := by decide +kernel
theorem dX10_one_35 : decode cX10_one 35 = .ok (.bipush 40, 2) := by decide +kernel
theorem dX10_one_37 : decode cX10_one 37 = .ok (.if_icmp .ne 20, 3) := by decide +kernel
theorem dX10_one_40 : decode cX10_one 40 = .ok (.aload_n 0, 1) := by decide +kernel
theorem dX10_one_41 : decode cX10_one 41 = .ok (.invokevirtual 211, 3) := by decide +kernel
theorem dX10_one_44 : decode cX10_one 44 = .ok (.istore_n 2, 1) := by decide +kernel
theorem dX10_one_45 : decode cX10_one 45 = .ok (.aload_n 0, 1) := by decide +kernel
theorem dX10_one_46 : decode cX10_one 46 = .ok (.dup, 1) := by decide +kernel
theorem dX10_one_47 : decode cX10_one 47 = .ok (.getfield 195, 3) := by decide +kernel
theorem dX10_one_50 : decode cX10_one 50 = .ok (.iconst 1, 1) := by decide +kernel
theorem dX10_one_51 : decode cX10_one 51 = .ok (.iadd, 1) := by decide +kernel
theorem dX10_one_52 : decode cX10_one 52 = .ok (.putfield 195, 3) := by decide +kernel
theorem dX10_one_55 : decode cX10_one 55 = .ok (.iload_n 2, 1) := by decide +kernel
theorem dX10_one_56 : decode cX10_one 56 = .ok (.ireturn, 1) := by decide +kernel
theorem dX10_one_57 : decode cX10_one 57 = .ok (.iconst 0, 1) := by decide +kernel
theorem dX10_one_58 : decode cX10_one 58 = .ok (.istore_n 2, 1) := by decide +kernel
theorem dX10_one_59 : decode cX10_one 59 = .ok (.aload_n 0, 1) := by decide +kernel
theorem dX10_one_60 : decode cX10_one 60 = .ok (.invokevirtual 205, 3) := by decide +kernel
theorem dX10_one_63 : decode cX10_one 63 = .ok (.invokestatic 181, 3) := by decide +kernel
theorem dX10_one_66 : decode cX10_one 66 = .ok (.ifCond .eq 29, 3) := by decide +kernel
theorem dX10_one_69 : decode cX10_one 69 = .ok (.bipush 10, 2) := by decide +kernel
theorem dX10_one_71 : decode cX10_one 71 = .ok (.iload_n 2, 1) := by decide +kernel
theorem dX10_one_72 : decode cX10_one 72 = .ok (.imul, 1) := by decide +kernel
theorem dX10_one_73 : decode cX10_one 73 = .ok (.aload_n 0, 1) := by decide +kernel
theorem dX10_one_74 : decode cX10_one 74 = .ok (.invokevirtual 205, 3) := by decide +kernel
theorem dX10_one_77 : decode cX10_one 77 = .ok (.iadd, 1) := by decide +kernel
theorem dX10_one_78 : decode cX10_one 78 = .ok (.bipush 48, 2) := by decide +kernel
theorem dX10_one_80 : decode cX10_one 80 = .ok (.isub, 1) := by decide +kernel
theorem dX10_one_81 : decode cX10_one 81 = .ok (.istore_n 2, 1) := by decide +kernel
theorem dX10_one_82 : decode cX10_one 82 = .ok (.aload_n 0, 1) := by decide +kernel
theorem dX10_one_83 : decode cX10_one 83 = .ok (.dup, 1) := by decide +kernel
theorem dX10_one_84 : decode cX10_one 84 = .ok (.getfield 195, 3) := by decide +kernel
theorem dX10_one_87 : decode cX10_one 87 = .ok (.iconst 1, 1) := by decide +kernel
theorem dX10_one_88 : decode cX10_one 88 = .ok (.iadd, 1) := by decide +kernel
theorem dX10_one_89 : decode cX10_one 89 = .ok (.putfield 195, 3) := by decide +kernel
theorem dX10_one_92 : decode cX10_one 92 = .ok (.goto (-33), 3) := by decide +kernel
theorem dX10_one_95 : decode cX10_one 95 = .ok (.aload_n 0, 1) := by decide +kernel
theorem dX10_one_96 : decode cX10_one 96 = .ok (.iload_n 1, 1) := by decide +kernel
theorem dX10_one_97 : decode cX10_one 97 = .ok (.iload_n 2, 1) := by decide +kernel
theorem dX10_one_98 : decode cX10_one 98 = .ok (.invokevirtual 214, 3) := by decide +kernel
theorem dX10_one_101 : decode cX10_one 101 = .ok (.ireturn, 1) := by decide +kernel
theorem dX10_is_0 : decode cX10_is 0 = .ok (.iload_n 1, 1) := by decide +kernel
theorem dX10_is_1 : decode cX10_is 1 = .ok (.bipush 114, 2) := by decide +kernel
theorem dX10_is_3 : decode cX10_is 3 = .ok (.if_icmp .ne 25, 3) := by decide +kernel
theorem dX10_is_6 : decode cX10_is 6 = .ok (.aload_n 0, 1) := by decide +kernel
theorem dX10_is_7 : decode cX10_is 7 = .ok (.iload_n 2, 1) := by decide +kernel
theorem dX10_is_8 : decode cX10_is 8 = .ok (.invokevirtual 128, 3) := by decide +kernel
theorem dX10_is_11 : decode cX10_is 11 = .ok (.ifCond .eq 15, 3) := by decide +kernel
theorem dX10_is_14 : decode cX10_is 14 = .ok (.aload_n 0, 1) := by decide +kernel
theorem dX10_is_15 : decode cX10_is 15 = .ok (.iload_n 2, 1) := by decide +kernel
theorem dX10_is_16 : decode cX10_is 16 = .ok (.invokevirtual 139, 3) := by decide +kernel
theorem dX10_is_19 : decode cX10_is 19 = .ok (.ifCond .eq 7, 3) := by decide +kernel
theorem dX10_is_22 : decode cX10_is 22 = .ok (.iconst 1, 1) := by decide +kernel
theorem dX10_is_23 : decode cX10_is 23 = .ok (.goto 4, 3) := by decide +kernel
theorem dX10_is_26 : decode cX10_is 26 = .ok (.iconst 0, 1) := by decide +kernel
theorem dX10_is_27 : decode cX10_is 27 = .ok (.ireturn, 1) := by decide +kernel
theorem dX10_is_28 : decode cX10_is 28 = .ok (.iconst 0, 1) := by decide +kernel
theorem dX10_is_29 : decode cX10_is 29 = .ok (.istore_n 3, 1) := by decide +kernel
theorem dX10_is_30 : decode cX10_is 30 = .ok (.iload_n 1, 1) := by decide +kernel
theorem dX10_is_31 : decode cX10_is 31 = .ok (.bipush 116, 2) := by decide +kernel
theorem dX10_is_33 : decode cX10_is 33 = .ok (.if_icmp .ne 11, 3) := by decide +kernel
theorem dX10_is_36 : decode cX10_is 36 = .ok (.aload_n 0, 1) := by decide +kernel
theorem dX10_is_37 : decode cX10_is 37 = .ok (.getfield 162, 3) := by decide +kernel
theorem dX10_is_40 : decode cX10_is 40 = .ok (.invokestatic 101, 3) := by decide +kernel
theorem dX10_is_43 : decode cX10_is 43 = .ok (.istore_n 3, 1) := by decide +kernel
theorem dX10_is_44 : decode cX10_is 44 = .ok (.iload_n 1, 1) := by decide +kernel
theorem dX10_is_45 : decode cX10_is 45 = .ok (.bipush 119, 2) := by decide +kernel
theorem dX10_is_47 : decode cX10_is 47 = .ok (.if_icmp .ne 8, 3) := by decide +kernel
theorem dX10_is_50 : decode cX10_is 50 = .ok (.aload_n 0, 1) := by decide +kernel
theorem dX10_is_51 : decode cX10_is 51 = .ok (.getfield 165, 3) := by decide +kernel
theorem dX10_is_54 : decode cX10_is 54 = .ok (.istore_n 3, 1) := by decide +kernel
theorem dX10_is_55 : decode cX10_is 55 = .ok (.iconst 0, 1) := by decide +kernel
theorem dX10_is_56 : decode cX10_is 56 = .ok (.istore 4, 2) := by decide +kernel
theorem dX10_is_58 : decode cX10_is 58 = .ok (.iload 4, 2) := by decide +kernel
theorem dX10_is_60 : decode cX10_is 60 = .ok (.iconst 5, 1) := by decide +kernel
theorem dX10_is_61 : decode cX10_is 61 = .ok (.if_icmp .ge 50, 3) := by decide +kernel
theorem dX10_is_64 : decode cX10_is 64 = .ok (.iload_n 1, 1) := by decide +kernel
theorem dX10_is_65 : decode cX10_is 65 = .ok (.bipush 104, 2) := by decide +kernel
theorem dX10_is_67 : decode cX10_is 67 = .ok (.if_icmp .ne 15, 3) := by decide +kernel
theorem dX10_is_70 : decode cX10_is 70 = .ok (.iload_n 3, 1) := by decide +kernel
theorem dX10_is_71 : decode cX10_is 71 = .ok (.aload_n 0, 1) := by decide +kernel
theorem dX10_is_72 : decode cX10_is 72 = .ok (.iload 4, 2) := by decide +kernel
theorem dX10_is_74 : decode cX10_is 74 = .ok (.invokevirtual 116, 3) := by decide +kernel
theorem dX10_is_77 : decode cX10_is 77 = .ok (.invokestatic 101, 3) := by decide +kernel
theorem dX10_is_80 : decode cX10_is 80 = .ok (.iadd, 1) := by decide +kernel
theorem dX10_is_81 : decode cX10_is 81 = .ok (.istore_n 3, 1) := by decide +kernel
theorem dX10_is_82 : decode cX10_is 82 = .ok (.iload_n 1, 1) := by decide +kernel
theorem dX10_is_83 : decode cX10_is 83 = .ok (.bipush 108, 2) := by decide +kernel
theorem dX10_is_85 : decode cX10_is 85 = .ok (.if_icmp .ne 20, 3) := by decide +kernel
theorem dX10_is_88 : decode cX10_is 88 = .ok (.iload_n 3, 1) := by decide +kernel
theorem dX10_is_89 : decode cX10_is 89 = .ok (.aload_n 0, 1) := by decide +kernel
theorem dX10_is_90 : decode cX10_is 90 = .ok (.iload 4, 2) := by decide +kernel
theorem dX10_is_92 : decode cX10_is 92 = .ok (.invokevirtual 116, 3) := by decide +kernel
theorem dX10_is_95 : decode cX10_is 95 = .ok (.ifCond .eq 7, 3) := by decide +kernel
theorem dX10_is_98 : decode cX10_is 98 = .ok (.iconst 1, 1) := by decide +kernel
theorem dX10_is_99 : decode cX10_is 99 = .ok (.goto 4, 3) := by decide +kernel
theorem dX10_is_102 : decode cX10_is 102 = .ok (.iconst 0, 1) := by decide +kernel
theorem dX10_is_103 : decode cX10_is 103 = .ok (.iadd, 1) := by decide +kernel
theorem dX10_is_104 : decode cX10_is 104 = .ok (.istore_n 3, 1) := by decide +kernel
theorem dX10_is_105 : decode cX10_is 105 = .ok (.iinc 4 1, 3) := by decide +kernel
theorem dX10_is_108 : decode cX10_is 108 = .ok (.goto (-50), 3) := by decide +kernel
theorem dX10_is_111 : decode cX10_is 111 = .ok (.iload_n 3, 1) := by decide +kernel
theorem dX10_is_112 : decode cX10_is 112 = .ok (.iload_n 2, 1) := by decide +kernel
theorem dX10_is_113 : decode cX10_is 113 = .ok (.if_icmp .lt 7, 3) := by decide +kernel
theorem dX10_is_116 : decode cX10_is 116 = .ok (.iconst 1, 1) := by decide +kernel
theorem dX10_is_117 : decode cX10_is 117 = .ok (.goto 4, 3) := by decide +kernel
theorem dX10_is_120 : decode cX10_is 120 = .ok (.iconst 0, 1) := by decide +kernel
theorem dX10_is_121 : decode cX10_is 121 = .ok (.ireturn, 1) := by decide +kernel
theorem dX10_holding_0 : decode cX10_holding 0 = .ok (.aload_n 0, 1) := by decide +kernel
theorem dX10_holding_1 : decode cX10_holding 1 = .ok (.invokevirtual 172, 3) := by decide +kernel
theorem dX10_holding_4 : decode cX10_holding 4 = .ok (.iconst 0, 1) := by decide +kernel
theorem dX10_holding_5 : decode cX10_holding 5 = .ok (.istore_n 1, 1) := by decide +kernel
theorem dX10_holding_6 : decode cX10_holding 6 = .ok (.aload_n 0, 1) := by decide +kernel
theorem dX10_holding_7 : decode cX10_holding 7 = .ok (.iconst 0, 1) := by decide +kernel
theorem dX10_holding_8 : decode cX10_holding 8 = .ok (.putfield 198, 3) := by decide +kernel
theorem dX10_holding_11 : decode cX10_holding 11 = .ok (.aload_n 0, 1) := by decide +kernel
theorem dX10_holding_12 : decode cX10_holding 12 = .ok (.getfield 198, 3) := by decide +kernel
theorem dX10_holding_15 : decode cX10_holding 15 = .ok (.aload_n 0, 1) := by decide +kernel
theorem dX10_holding_16 : decode cX10_holding 16 = .ok (.getfield 186, 3) := by decide +kernel
theorem dX10_holding_19 : decode cX10_holding 19 = .ok (.if_icmp .ge 37, 3) := by decide +kernel
theorem dX10_holding_22 : decode cX10_holding 22 = .ok (.aload_n 0, 1) := by decide +kernel
theorem dX10_holding_23 : decode cX10_holding 23 = .ok (.iconst 0, 1) := by decide +kernel
theorem dX10_holding_24 : decode cX10_holding 24 = .ok (.putfield 195, 3) := by decide +kernel
theorem dX10_holding_27 : decode cX10_holding 27 = .ok (.aload_n 0, 1) := by decide +kernel
theorem dX10_holding_28 : decode cX10_holding 28 = .ok (.invokevirtual 211, 3) := by decide +kernel
theorem dX10_holding_31 : decode cX10_holding 31 = .ok (.ifCond .eq 12, 3) := by decide +kernel
theorem dX10_holding_34 : decode cX10_holding 34 = .ok (.iload_n 1, 1) := by decide +kernel
theorem dX10_holding_35 : decode cX10_holding 35 = .ok (.iconst 1, 1) := by decide +kernel
theorem dX10_holding_36 : decode cX10_holding 36 = .ok (.aload_n 0, 1) := by decide +kernel
theorem dX10_holding_37 : decode cX10_holding 37 = .ok (.getfield 198, 3) := by decide +kernel
theorem dX10_holding_40 : decode cX10_holding 40 = .ok (.ishl, 1) := by decide +kernel
theorem dX10_holding_41 : decode cX10_holding 41 = .ok (.ior, 1) := by decide +kernel
theorem dX10_holding_42 : decode cX10_holding 42 = .ok (.istore_n 1, 1) := by decide +kernel
theorem dX10_holding_43 : decode cX10_holding 43 = .ok (.aload_n 0, 1) := by decide +kernel
theorem dX10_holding_44 : decode cX10_holding 44 = .ok (.dup, 1) := by decide +kernel
theorem dX10_holding_45 : decode cX10_holding 45 = .ok (.getfield 198, 3) := by decide +kernel
theorem dX10_holding_48 : decode cX10_holding 48 = .ok (.iconst 1, 1) := by decide +kernel
theorem dX10_holding_49 : decode cX10_holding 49 = .ok (.iadd, 1) := by decide +kernel
theorem dX10_holding_50 : decode cX10_holding 50 = .ok (.putfield 198, 3) := by decide +kernel
theorem dX10_holding_53 : decode cX10_holding 53 = .ok (.goto (-42), 3) := by decide +kernel
theorem dX10_holding_56 : decode cX10_holding 56 = .ok (.iload_n 1, 1) := by decide +kernel
theorem dX10_holding_57 : decode cX10_holding 57 = .ok (.ireturn, 1) := by decide +kernel
theorem dX10_holds_0 : decode cX10_holds 0 = .ok (.aload_n 0, 1) := by decide +kernel
theorem dX10_holds_1 : decode cX10_holds 1 = .ok (.iload_n 1, 1) := by decide +kernel
theorem dX10_holds_2 : decode cX10_holds 2 = .ok (.invokevirtual 192, 3) := by decide +kernel
theorem dX10_holds_5 : decode cX10_holds 5 = .ok (.ifCond .eq 14, 3) := by decide +kernel
theorem dX10_holds_8 : decode cX10_holds 8 = .ok (.aload_n 0, 1) := by decide +kernel
theorem dX10_holds_9 : decode cX10_holds 9 = .ok (.invokevirtual 217, 3) := by decide +kernel
theorem dX10_holds_12 : decode cX10_holds 12 = .ok (.iload_n 1, 1) := by decide +kernel
theorem dX10_holds_13 : decode cX10_holds 13 = .ok (.ishr, 1) := by decide +kernel
theorem dX10_holds_14 : decode cX10_holds 14 = .ok (.iconst 1, 1) := by decide +kernel
theorem dX10_holds_15 : decode cX10_holds 15 = .ok (.iand, 1) := by decide +kernel
theorem dX10_holds_16 : decode cX10_holds 16 = .ok (.goto 4, 3) := by decide +kernel
theorem dX10_holds_19 : decode cX10_holds 19 = .ok (.iconst (-1), 1) := by decide +kernel
theorem dX10_holds_20 : decode cX10_holds 20 = .ok (.ireturn, 1) := by decide +kernel
theorem dX10_of_0 : decode cX10_of 0 = .ok (.aload_n 0, 1) := by decide +kernel
theorem dX10_of_1 : decode cX10_of 1 = .ok (.iload_n 1, 1) := by decide +kernel
theorem dX10_of_2 : decode cX10_of 2 = .ok (.invokevirtual 192, 3) := by decide +kernel
theorem dX10_of_5 : decode cX10_of 5 = .ok (.ifCond .ne 5, 3) := by decide +kernel
theorem dX10_of_8 : decode cX10_of 8 = .ok (.iconst (-1), 1) := by decide +kernel
theorem dX10_of_9 : decode cX10_of 9 = .ok (.ireturn, 1) := by decide +kernel
theorem dX10_of_10 : decode cX10_of 10 = .ok (.iload_n 2, 1) := by decide +kernel
theorem dX10_of_11 : decode cX10_of 11 = .ok (.tableswitch 98 0 6 #[41, 48, 63, 70, 77, 84, 91], 41) := by decide +kernel
theorem dX10_of_52 : decode cX10_of 52 = .ok (.aload_n 0, 1) := by decide +kernel
theorem dX10_of_53 : decode cX10_of 53 = .ok (.getfield 44, 3) := by decide +kernel
theorem dX10_of_56 : decode cX10_of 56 = .ok (.iload_n 1, 1) := by decide +kernel
theorem dX10_of_57 : decode cX10_of 57 = .ok (.iaload, 1) := by decide +kernel
theorem dX10_of_58 : decode cX10_of 58 = .ok (.ireturn, 1) := by decide +kernel
theorem dX10_of_59 : decode cX10_of 59 = .ok (.aload_n 0, 1) := by decide +kernel
theorem dX10_of_60 : decode cX10_of 60 = .ok (.getfield 47, 3) := by decide +kernel
theorem dX10_of_63 : decode cX10_of 63 = .ok (.iload_n 1, 1) := by decide +kernel
theorem dX10_of_64 : decode cX10_of 64 = .ok (.baload, 1) := by decide +kernel
theorem dX10_of_65 : decode cX10_of 65 = .ok (.ifCond .eq 7, 3) := by decide +kernel
theorem dX10_of_68 : decode cX10_of 68 = .ok (.iconst 1, 1) := by decide +kernel
theorem dX10_of_69 : decode cX10_of 69 = .ok (.goto 4, 3) := by decide +kernel
theorem dX10_of_72 : decode cX10_of 72 = .ok (.iconst 0, 1) := by decide +kernel
theorem dX10_of_73 : decode cX10_of 73 = .ok (.ireturn, 1) := by decide +kernel
theorem dX10_of_74 : decode cX10_of 74 = .ok (.aload_n 0, 1) := by decide +kernel
theorem dX10_of_75 : decode cX10_of 75 = .ok (.getfield 51, 3) := by decide +kernel
theorem dX10_of_78 : decode cX10_of 78 = .ok (.iload_n 1, 1) := by decide +kernel
theorem dX10_of_79 : decode cX10_of 79 = .ok (.iaload, 1) := by decide +kernel
theorem dX10_of_80 : decode cX10_of 80 = .ok (.ireturn, 1) := by decide +kernel
theorem dX10_of_81 : decode cX10_of 81 = .ok (.aload_n 0, 1) := by decide +kernel
theorem dX10_of_82 : decode cX10_of 82 = .ok (.getfield 54, 3) := by decide +kernel
theorem dX10_of_85 : decode cX10_of 85 = .ok (.iload_n 1, 1) := by decide +kernel
theorem dX10_of_86 : decode cX10_of 86 = .ok (.iaload, 1) := by decide +kernel
theorem dX10_of_87 : decode cX10_of 87 = .ok (.ireturn, 1) := by decide +kernel
theorem dX10_of_88 : decode cX10_of 88 = .ok (.aload_n 0, 1) := by decide +kernel
theorem dX10_of_89 : decode cX10_of 89 = .ok (.getfield 57, 3) := by decide +kernel
theorem dX10_of_92 : decode cX10_of 92 = .ok (.iload_n 1, 1) := by decide +kernel
theorem dX10_of_93 : decode cX10_of 93 = .ok (.iaload, 1) := by decide +kernel
theorem dX10_of_94 : decode cX10_of 94 = .ok (.ireturn, 1) := by decide +kernel
theorem dX10_of_95 : decode cX10_of 95 = .ok (.aload_n 0, 1) := by decide +kernel
theorem dX10_of_96 : decode cX10_of 96 = .ok (.getfield 60, 3) := by decide +kernel
theorem dX10_of_99 : decode cX10_of 99 = .ok (.iload_n 1, 1) := by decide +kernel
theorem dX10_of_100 : decode cX10_of 100 = .ok (.iaload, 1) := by decide +kernel
theorem dX10_of_101 : decode cX10_of 101 = .ok (.ireturn, 1) := by decide +kernel
theorem dX10_of_102 : decode cX10_of 102 = .ok (.aload_n 0, 1) := by decide +kernel
theorem dX10_of_103 : decode cX10_of 103 = .ok (.getfield 41, 3) := by decide +kernel
theorem dX10_of_106 : decode cX10_of 106 = .ok (.iload_n 1, 1) := by decide +kernel
theorem dX10_of_107 : decode cX10_of 107 = .ok (.iaload, 1) := by decide +kernel
theorem dX10_of_108 : decode cX10_of 108 = .ok (.ireturn, 1) := by decide +kernel
theorem dX10_of_109 : decode cX10_of 109 = .ok (.iconst (-1), 1) := by decide +kernel
theorem dX10_of_110 : decode cX10_of 110 = .ok (.ireturn, 1) := by decide +kernel
theorem dX10_noHits_0 : decode cX10_noHits 0 = .ok (.iconst 0, 1) := by decide +kernel
theorem dX10_noHits_1 : decode cX10_noHits 1 = .ok (.istore_n 1, 1) := by decide +kernel
theorem dX10_noHits_2 : decode cX10_noHits 2 = .ok (.iload_n 1, 1) := by decide +kernel
theorem dX10_noHits_3 : decode cX10_noHits 3 = .ok (.iconst 5, 1) := by decide +kernel
theorem dX10_noHits_4 : decode cX10_noHits 4 = .ok (.if_icmp .ge 16, 3) := by decide +kernel
theorem dX10_noHits_7 : decode cX10_noHits 7 = .ok (.aload_n 0, 1) := by decide +kernel
theorem dX10_noHits_8 : decode cX10_noHits 8 = .ok (.getfield 19, 3) := by decide +kernel
theorem dX10_noHits_11 : decode cX10_noHits 11 = .ok (.iload_n 1, 1) := by decide +kernel
theorem dX10_noHits_12 : decode cX10_noHits 12 = .ok (.iconst 0, 1) := by decide +kernel
theorem dX10_noHits_13 : decode cX10_noHits 13 = .ok (.iastore, 1) := by decide +kernel
theorem dX10_noHits_14 : decode cX10_noHits 14 = .ok (.iinc 1 1, 3) := by decide +kernel
theorem dX10_noHits_17 : decode cX10_noHits 17 = .ok (.goto (-15), 3) := by decide +kernel
theorem dX10_noHits_20 : decode cX10_noHits 20 = .ok (.return_, 1) := by decide +kernel
theorem dX10_look_0 : decode cX10_look 0 = .ok (.aload_n 0, 1) := by decide +kernel
theorem dX10_look_1 : decode cX10_look 1 = .ok (.invokevirtual 217, 3) := by decide +kernel
theorem dX10_look_4 : decode cX10_look 4 = .ok (.istore_n 1, 1) := by decide +kernel
theorem dX10_look_5 : decode cX10_look 5 = .ok (.iconst 0, 1) := by decide +kernel
theorem dX10_look_6 : decode cX10_look 6 = .ok (.istore_n 2, 1) := by decide +kernel
theorem dX10_look_7 : decode cX10_look 7 = .ok (.iconst 0, 1) := by decide +kernel
theorem dX10_look_8 : decode cX10_look 8 = .ok (.istore_n 3, 1) := by decide +kernel
theorem dX10_look_9 : decode cX10_look 9 = .ok (.iconst 0, 1) := by decide +kernel
theorem dX10_look_10 : decode cX10_look 10 = .ok (.istore 4, 2) := by decide +kernel
theorem dX10_look_12 : decode cX10_look 12 = .ok (.iconst 0, 1) := by decide +kernel
theorem dX10_look_13 : decode cX10_look 13 = .ok (.istore 5, 2) := by decide +kernel
theorem dX10_look_15 : decode cX10_look 15 = .ok (.iload 5, 2) := by decide +kernel
theorem dX10_look_17 : decode cX10_look 17 = .ok (.aload_n 0, 1) := by decide +kernel
theorem dX10_look_18 : decode cX10_look 18 = .ok (.getfield 186, 3) := by decide +kernel
theorem dX10_look_21 : decode cX10_look 21 = .ok (.if_icmp .ge 90, 3) := by decide +kernel
theorem dX10_look_24 : decode cX10_look 24 = .ok (.iload_n 1, 1) := by decide +kernel
theorem dX10_look_25 : decode cX10_look 25 = .ok (.iload 5, 2) := by decide +kernel
theorem dX10_look_27 : decode cX10_look 27 = .ok (.ishr, 1) := by decide +kernel
theorem dX10_look_28 : decode cX10_look 28 = .ok (.iconst 1, 1) := by decide +kernel
theorem dX10_look_29 : decode cX10_look 29 = .ok (.iand, 1) := by decide +kernel
theorem dX10_look_30 : decode cX10_look 30 = .ok (.ifCond .ne 6, 3) := by decide +kernel
theorem dX10_look_33 : decode cX10_look 33 = .ok (.goto 72, 3) := by decide +kernel
theorem dX10_look_36 : decode cX10_look 36 = .ok (.aload_n 0, 1) := by decide +kernel
theorem dX10_look_37 : decode cX10_look 37 = .ok (.getfield 51, 3) := by decide +kernel
theorem dX10_look_40 : decode cX10_look 40 = .ok (.iload 5, 2) := by decide +kernel
theorem dX10_look_42 : decode cX10_look 42 = .ok (.dup2, 1) := by decide +kernel
theorem dX10_look_43 : decode cX10_look 43 = .ok (.iaload, 1) := by decide +kernel
theorem dX10_look_44 : decode cX10_look 44 = .ok (.iconst 1, 1) := by decide +kernel
theorem dX10_look_45 : decode cX10_look 45 = .ok (.iadd, 1) := by decide +kernel
theorem dX10_look_46 : decode cX10_look 46 = .ok (.iastore, 1) := by decide +kernel
theorem dX10_look_47 : decode cX10_look 47 = .ok (.aload_n 0, 1) := by decide +kernel
theorem dX10_look_48 : decode cX10_look 48 = .ok (.getfield 51, 3) := by decide +kernel
theorem dX10_look_51 : decode cX10_look 51 = .ok (.iload 5, 2) := by decide +kernel
theorem dX10_look_53 : decode cX10_look 53 = .ok (.iaload, 1) := by decide +kernel
theorem dX10_look_54 : decode cX10_look 54 = .ok (.aload_n 0, 1) := by decide +kernel
theorem dX10_look_55 : decode cX10_look 55 = .ok (.getfield 44, 3) := by decide +kernel
theorem dX10_look_58 : decode cX10_look 58 = .ok (.iload 5, 2) := by decide +kernel
theorem dX10_look_60 : decode cX10_look 60 = .ok (.iaload, 1) := by decide +kernel
theorem dX10_look_61 : decode cX10_look 61 = .ok (.irem, 1) := by decide +kernel
theorem dX10_look_62 : decode cX10_look 62 = .ok (.ifCond .eq 6, 3) := by decide +kernel
theorem dX10_look_65 : decode cX10_look 65 = .ok (.goto 40, 3) := by decide +kernel
theorem dX10_look_68 : decode cX10_look 68 = .ok (.aload_n 0, 1) := by decide +kernel
theorem dX10_look_69 : decode cX10_look 69 = .ok (.getfield 54, 3) := by decide +kernel
theorem dX10_look_72 : decode cX10_look 72 = .ok (.iload 5, 2) := by decide +kernel
theorem dX10_look_74 : decode cX10_look 74 = .ok (.dup2, 1) := by decide +kernel
theorem dX10_look_75 : decode cX10_look 75 = .ok (.iaload, 1) := by decide +kernel
theorem dX10_look_76 : decode cX10_look 76 = .ok (.iconst 1, 1) := by decide +kernel
theorem dX10_look_77 : decode cX10_look 77 = .ok (.iadd, 1) := by decide +kernel
theorem dX10_look_78 : decode cX10_look 78 = .ok (.iastore, 1) := by decide +kernel
theorem dX10_look_79 : decode cX10_look 79 = .ok (.iload_n 2, 1) := by decide +kernel
theorem dX10_look_80 : decode cX10_look 80 = .ok (.iconst 1, 1) := by decide +kernel
theorem dX10_look_81 : decode cX10_look 81 = .ok (.iload 5, 2) := by decide +kernel
theorem dX10_look_83 : decode cX10_look 83 = .ok (.ishl, 1) := by decide +kernel
theorem dX10_look_84 : decode cX10_look 84 = .ok (.ior, 1) := by decide +kernel
theorem dX10_look_85 : decode cX10_look 85 = .ok (.istore_n 2, 1) := by decide +kernel
theorem dX10_look_86 : decode cX10_look 86 = .ok (.aload_n 0, 1) := by decide +kernel
theorem dX10_look_87 : decode cX10_look 87 = .ok (.getfield 47, 3) := by decide +kernel
theorem dX10_look_90 : decode cX10_look 90 = .ok (.iload 5, 2) := by decide +kernel
theorem dX10_look_92 : decode cX10_look 92 = .ok (.baload, 1) := by decide +kernel
theorem dX10_look_93 : decode cX10_look 93 = .ok (.ifCond .eq 9, 3) := by decide +kernel
theorem dX10_look_96 : decode cX10_look 96 = .ok (.iconst 1, 1) := by decide +kernel
theorem dX10_look_97 : decode cX10_look 97 = .ok (.istore 4, 2) := by decide +kernel
theorem dX10_look_99 : decode cX10_look 99 = .ok (.goto 6, 3) := by decide +kernel
theorem dX10_look_102 : decode cX10_look 102 = .ok (.iinc 3 1, 3) := by decide +kernel
theorem dX10_look_105 : decode cX10_look 105 = .ok (.iinc 5 1, 3) := by decide +kernel
theorem dX10_look_108 : decode cX10_look 108 = .ok (.goto (-93), 3) := by decide +kernel
theorem dX10_look_111 : decode cX10_look 111 = .ok (.iload_n 3, 1) := by decide +kernel
theorem dX10_look_112 : decode cX10_look 112 = .ok (.ifCond .le 18, 3) := by decide +kernel
theorem dX10_look_115 : decode cX10_look 115 = .ok (.iload 4, 2) := by decide +kernel
theorem dX10_look_117 : decode cX10_look 117 = .ok (.ifCond .eq 13, 3) := by decide +kernel
theorem dX10_look_120 : decode cX10_look 120 = .ok (.aload_n 0, 1) := by decide +kernel
theorem dX10_look_121 : decode cX10_look 121 = .ok (.dup, 1) := by decide +kernel
theorem dX10_look_122 : decode cX10_look 122 = .ok (.getfield 220, 3) := by decide +kernel
theorem dX10_look_125 : decode cX10_look 125 = .ok (.iconst 1, 1) := by decide +kernel
theorem dX10_look_126 : decode cX10_look 126 = .ok (.iadd, 1) := by decide +kernel
theorem dX10_look_127 : decode cX10_look 127 = .ok (.putfield 220, 3) := by decide +kernel
theorem dX10_look_130 : decode cX10_look 130 = .ok (.iload_n 3, 1) := by decide +kernel
theorem dX10_look_131 : decode cX10_look 131 = .ok (.ifCond .eq 8, 3) := by decide +kernel
theorem dX10_look_134 : decode cX10_look 134 = .ok (.iload 4, 2) := by decide +kernel
theorem dX10_look_136 : decode cX10_look 136 = .ok (.ifCond .eq 5, 3) := by decide +kernel
theorem dX10_look_139 : decode cX10_look 139 = .ok (.iconst 0, 1) := by decide +kernel
theorem dX10_look_140 : decode cX10_look 140 = .ok (.ireturn, 1) := by decide +kernel
theorem dX10_look_141 : decode cX10_look 141 = .ok (.iconst 0, 1) := by decide +kernel
theorem dX10_look_142 : decode cX10_look 142 = .ok (.istore 5, 2) := by decide +kernel
theorem dX10_look_144 : decode cX10_look 144 = .ok (.iload 5, 2) := by decide +kernel
theorem dX10_look_146 : decode cX10_look 146 = .ok (.aload_n 0, 1) := by decide +kernel
theorem dX10_look_147 : decode cX10_look 147 = .ok (.getfield 186, 3) := by decide +kernel
theorem dX10_look_150 : decode cX10_look 150 = .ok (.if_icmp .ge 48, 3) := by decide +kernel
theorem dX10_look_153 : decode cX10_look 153 = .ok (.iload_n 2, 1) := by decide +kernel
theorem dX10_look_154 : decode cX10_look 154 = .ok (.iload 5, 2) := by decide +kernel
theorem dX10_look_156 : decode cX10_look 156 = .ok (.ishr, 1) := by decide +kernel
theorem dX10_look_157 : decode cX10_look 157 = .ok (.iconst 1, 1) := by decide +kernel
theorem dX10_look_158 : decode cX10_look 158 = .ok (.iand, 1) := by decide +kernel
theorem dX10_look_159 : decode cX10_look 159 = .ok (.ifCond .ne 6, 3) := by decide +kernel
theorem dX10_look_162 : decode cX10_look 162 = .ok (.goto 30, 3) := by decide +kernel
theorem dX10_look_165 : decode cX10_look 165 = .ok (.aload_n 0, 1) := by decide +kernel
theorem dX10_look_166 : decode cX10_look 166 = .ok (.getfield 57, 3) := by decide +kernel
theorem dX10_look_169 : decode cX10_look 169 = .ok (.iload 5, 2) := by decide +kernel
theorem dX10_look_171 : decode cX10_look 171 = .ok (.dup2, 1) := by decide +kernel
theorem dX10_look_172 : decode cX10_look 172 = .ok (.iaload, 1) := by decide +kernel
theorem dX10_look_173 : decode cX10_look 173 = .ok (.iconst 1, 1) := by decide +kernel
theorem dX10_look_174 : decode cX10_look 174 = .ok (.iadd, 1) := by decide +kernel
theorem dX10_look_175 : decode cX10_look 175 = .ok (.iastore, 1) := by decide +kernel
theorem dX10_look_176 : decode cX10_look 176 = .ok (.iload_n 3, 1) := by decide +kernel
theorem dX10_look_177 : decode cX10_look 177 = .ok (.iconst 1, 1) := by decide +kernel
theorem dX10_look_178 : decode cX10_look 178 = .ok (.if_icmp .ne 14, 3) := by decide +kernel
theorem dX10_look_181 : decode cX10_look 181 = .ok (.aload_n 0, 1) := by decide +kernel
theorem dX10_look_182 : decode cX10_look 182 = .ok (.getfield 60, 3) := by decide +kernel
theorem dX10_look_185 : decode cX10_look 185 = .ok (.iload 5, 2) := by decide +kernel
theorem dX10_look_187 : decode cX10_look 187 = .ok (.dup2, 1) := by decide +kernel
theorem dX10_look_188 : decode cX10_look 188 = .ok (.iaload, 1) := by decide +kernel
theorem dX10_look_189 : decode cX10_look 189 = .ok (.iconst 1, 1) := by decide +kernel
theorem dX10_look_190 : decode cX10_look 190 = .ok (.iadd, 1) := by decide +kernel
theorem dX10_look_191 : decode cX10_look 191 = .ok (.iastore, 1) := by decide +kernel
theorem dX10_look_192 : decode cX10_look 192 = .ok (.iinc 5 1, 3) := by decide +kernel
theorem dX10_look_195 : decode cX10_look 195 = .ok (.goto (-51), 3) := by decide +kernel
theorem dX10_look_198 : decode cX10_look 198 = .ok (.aload_n 0, 1) := by decide +kernel
theorem dX10_look_199 : decode cX10_look 199 = .ok (.getfield 223, 3) := by decide +kernel
theorem dX10_look_202 : decode cX10_look 202 = .ok (.bipush 30, 2) := by decide +kernel
theorem dX10_look_204 : decode cX10_look 204 = .ok (.irem, 1) := by decide +kernel
theorem dX10_look_205 : decode cX10_look 205 = .ok (.istore 5, 2) := by decide +kernel
theorem dX10_look_207 : decode cX10_look 207 = .ok (.aload_n 0, 1) := by decide +kernel
theorem dX10_look_208 : decode cX10_look 208 = .ok (.getfield 63, 3) := by decide +kernel
theorem dX10_look_211 : decode cX10_look 211 = .ok (.iload 5, 2) := by decide +kernel
theorem dX10_look_213 : decode cX10_look 213 = .ok (.aload_n 0, 1) := by decide +kernel
theorem dX10_look_214 : decode cX10_look 214 = .ok (.getfield 226, 3) := by decide +kernel
theorem dX10_look_217 : decode cX10_look 217 = .ok (.iastore, 1) := by decide +kernel
theorem dX10_look_218 : decode cX10_look 218 = .ok (.aload_n 0, 1) := by decide +kernel
theorem dX10_look_219 : decode cX10_look 219 = .ok (.getfield 66, 3) := by decide +kernel
theorem dX10_look_222 : decode cX10_look 222 = .ok (.iload 5, 2) := by decide +kernel
theorem dX10_look_224 : decode cX10_look 224 = .ok (.iload_n 2, 1) := by decide +kernel
theorem dX10_look_225 : decode cX10_look 225 = .ok (.iastore, 1) := by decide +kernel
theorem dX10_look_226 : decode cX10_look 226 = .ok (.iconst 0, 1) := by decide +kernel
theorem dX10_look_227 : decode cX10_look 227 = .ok (.istore 6, 2) := by decide +kernel
theorem dX10_look_229 : decode cX10_look 229 = .ok (.iload 6, 2) := by decide +kernel
theorem dX10_look_231 : decode cX10_look 231 = .ok (.iconst 5, 1) := by decide +kernel
theorem dX10_look_232 : decode cX10_look 232 = .ok (.if_icmp .ge 28, 3) := by decide +kernel
theorem dX10_look_235 : decode cX10_look 235 = .ok (.aload_n 0, 1) := by decide +kernel
theorem dX10_look_236 : decode cX10_look 236 = .ok (.getfield 69, 3) := by decide +kernel
theorem dX10_look_239 : decode cX10_look 239 = .ok (.iconst 5, 1) := by decide +kernel
theorem dX10_look_240 : decode cX10_look 240 = .ok (.iload 5, 2) := by decide +kernel
theorem dX10_look_242 : decode cX10_look 242 = .ok (.imul, 1) := by decide +kernel
theorem dX10_look_243 : decode cX10_look 243 = .ok (.iload 6, 2) := by decide +kernel
theorem dX10_look_245 : decode cX10_look 245 = .ok (.iadd, 1) := by decide +kernel
theorem dX10_look_246 : decode cX10_look 246 = .ok (.aload_n 0, 1) := by decide +kernel
theorem dX10_look_247 : decode cX10_look 247 = .ok (.getfield 19, 3) := by decide +kernel
theorem dX10_look_250 : decode cX10_look 250 = .ok (.iload 6, 2) := by decide +kernel
theorem dX10_look_252 : decode cX10_look 252 = .ok (.iaload, 1) := by decide +kernel
theorem dX10_look_253 : decode cX10_look 253 = .ok (.iastore, 1) := by decide +kernel
theorem dX10_look_254 : decode cX10_look 254 = .ok (.iinc 6 1, 3) := by decide +kernel
theorem dX10_look_257 : decode cX10_look 257 = .ok (.goto (-28), 3) := by decide +kernel
theorem dX10_look_260 : decode cX10_look 260 = .ok (.aload_n 0, 1) := by decide +kernel
theorem dX10_look_261 : decode cX10_look 261 = .ok (.dup, 1) := by decide +kernel
theorem dX10_look_262 : decode cX10_look 262 = .ok (.getfield 223, 3) := by decide +kernel
theorem dX10_look_265 : decode cX10_look 265 = .ok (.iconst 1, 1) := by decide +kernel
theorem dX10_look_266 : decode cX10_look 266 = .ok (.iadd, 1) := by decide +kernel
theorem dX10_look_267 : decode cX10_look 267 = .ok (.putfield 223, 3) := by decide +kernel
theorem dX10_look_270 : decode cX10_look 270 = .ok (.aload_n 0, 1) := by decide +kernel
theorem dX10_look_271 : decode cX10_look 271 = .ok (.aload_n 0, 1) := by decide +kernel
theorem dX10_look_272 : decode cX10_look 272 = .ok (.getfield 229, 3) := by decide +kernel
theorem dX10_look_275 : decode cX10_look 275 = .ok (.putfield 232, 3) := by decide +kernel
theorem dX10_look_278 : decode cX10_look 278 = .ok (.iload_n 2, 1) := by decide +kernel
theorem dX10_look_279 : decode cX10_look 279 = .ok (.ireturn, 1) := by decide +kernel
theorem dX10_fire_0 : decode cX10_fire 0 = .ok (.iconst (-1), 1) := by decide +kernel
theorem dX10_fire_1 : decode cX10_fire 1 = .ok (.istore_n 1, 1) := by decide +kernel
theorem dX10_fire_2 : decode cX10_fire 2 = .ok (.aload_n 0, 1) := by decide +kernel
theorem dX10_fire_3 : decode cX10_fire 3 = .ok (.getfield 232, 3) := by decide +kernel
theorem dX10_fire_6 : decode cX10_fire 6 = .ok (.ifCond .le 26, 3) := by decide +kernel
theorem dX10_fire_9 : decode cX10_fire 9 = .ok (.aload_n 0, 1) := by decide +kernel
theorem dX10_fire_10 : decode cX10_fire 10 = .ok (.dup, 1) := by decide +kernel
theorem dX10_fire_11 : decode cX10_fire 11 = .ok (.getfield 232, 3) := by decide +kernel
theorem dX10_fire_14 : decode cX10_fire 14 = .ok (.iconst 1, 1) := by decide +kernel
theorem dX10_fire_15 : decode cX10_fire 15 = .ok (.isub, 1) := by decide +kernel
theorem dX10_fire_16 : decode cX10_fire 16 = .ok (.putfield 232, 3) := by decide +kernel
theorem dX10_fire_19 : decode cX10_fire 19 = .ok (.aload_n 0, 1) := by decide +kernel
theorem dX10_fire_20 : decode cX10_fire 20 = .ok (.dup, 1) := by decide +kernel
theorem dX10_fire_21 : decode cX10_fire 21 = .ok (.getfield 235, 3) := by decide +kernel
theorem dX10_fire_24 : decode cX10_fire 24 = .ok (.iconst 1, 1) := by decide +kernel
theorem dX10_fire_25 : decode cX10_fire 25 = .ok (.iadd, 1) := by decide +kernel
theorem dX10_fire_26 : decode cX10_fire 26 = .ok (.putfield 235, 3) := by decide +kernel
theorem dX10_fire_29 : decode cX10_fire 29 = .ok (.goto 8, 3) := by decide +kernel
theorem dX10_fire_32 : decode cX10_fire 32 = .ok (.aload_n 0, 1) := by decide +kernel
theorem dX10_fire_33 : decode cX10_fire 33 = .ok (.invokevirtual 238, 3) := by decide +kernel
theorem dX10_fire_36 : decode cX10_fire 36 = .ok (.istore_n 1, 1) := by decide +kernel
theorem dX10_fire_37 : decode cX10_fire 37 = .ok (.aload_n 0, 1) := by decide +kernel
theorem dX10_fire_38 : decode cX10_fire 38 = .ok (.dup, 1) := by decide +kernel
theorem dX10_fire_39 : decode cX10_fire 39 = .ok (.getfield 226, 3) := by decide +kernel
theorem dX10_fire_42 : decode cX10_fire 42 = .ok (.iconst 1, 1) := by decide +kernel
theorem dX10_fire_43 : decode cX10_fire 43 = .ok (.iadd, 1) := by decide +kernel
theorem dX10_fire_44 : decode cX10_fire 44 = .ok (.putfield 226, 3) := by decide +kernel
theorem dX10_fire_47 : decode cX10_fire 47 = .ok (.aload_n 0, 1) := by decide +kernel
theorem dX10_fire_48 : decode cX10_fire 48 = .ok (.invokevirtual 241, 3) := by decide +kernel
theorem dX10_fire_51 : decode cX10_fire 51 = .ok (.iload_n 1, 1) := by decide +kernel
theorem dX10_fire_52 : decode cX10_fire 52 = .ok (.ireturn, 1) := by decide +kernel
theorem dX10_rest_0 : decode cX10_rest 0 = .ok (.iload_n 1, 1) := by decide +kernel
theorem dX10_rest_1 : decode cX10_rest 1 = .ok (.i2l, 1) := by decide +kernel
theorem dX10_rest_2 : decode cX10_rest 2 = .ok (.lconst 0, 1) := by decide +kernel
theorem dX10_rest_3 : decode cX10_rest 3 = .ok (.ldc2_w 244, 3) := by decide +kernel
theorem dX10_rest_6 : decode cX10_rest 6 = .ok (.invokestatic 95, 3) := by decide +kernel
theorem dX10_rest_9 : decode cX10_rest 9 = .ok (.ifCond .ne 5, 3) := by decide +kernel
theorem dX10_rest_12 : decode cX10_rest 12 = .ok (.iconst (-1), 1) := by decide +kernel
theorem dX10_rest_13 : decode cX10_rest 13 = .ok (.ireturn, 1) := by decide +kernel
theorem dX10_rest_14 : decode cX10_rest 14 = .ok (.aload_n 0, 1) := by decide +kernel
theorem dX10_rest_15 : decode cX10_rest 15 = .ok (.getfield 229, 3) := by decide +kernel
theorem dX10_rest_18 : decode cX10_rest 18 = .ok (.istore_n 2, 1) := by decide +kernel
theorem dX10_rest_19 : decode cX10_rest 19 = .ok (.aload_n 0, 1) := by decide +kernel
theorem dX10_rest_20 : decode cX10_rest 20 = .ok (.iload_n 1, 1) := by decide +kernel
theorem dX10_rest_21 : decode cX10_rest 21 = .ok (.putfield 229, 3) := by decide +kernel
theorem dX10_rest_24 : decode cX10_rest 24 = .ok (.iload_n 2, 1) := by decide +kernel
theorem dX10_rest_25 : decode cX10_rest 25 = .ok (.ireturn, 1) := by decide +kernel
theorem dX10_raws_0 : decode cX10_raws 0 = .ok (.aload_n 0, 1) := by decide +kernel
theorem dX10_raws_1 : decode cX10_raws 1 = .ok (.getfield 223, 3) := by decide +kernel
theorem dX10_raws_4 : decode cX10_raws 4 = .ok (.bipush 30, 2) := by decide +kernel
theorem dX10_raws_6 : decode cX10_raws 6 = .ok (.if_icmp .ge 10, 3) := by decide +kernel
theorem dX10_raws_9 : decode cX10_raws 9 = .ok (.aload_n 0, 1) := by decide +kernel
theorem dX10_raws_10 : decode cX10_raws 10 = .ok (.getfield 223, 3) := by decide +kernel
theorem dX10_raws_13 : decode cX10_raws 13 = .ok (.goto 5, 3) := by decide +kernel
theorem dX10_raws_16 : decode cX10_raws 16 = .ok (.bipush 30, 2) := by decide +kernel
theorem dX10_raws_18 : decode cX10_raws 18 = .ok (.ireturn, 1) := by decide +kernel
theorem dX10_many_0 : decode cX10_many 0 = .ok (.iload_n 1, 1) := by decide +kernel
theorem dX10_many_1 : decode cX10_many 1 = .ok (.tableswitch 87 0 7 #[47, 52, 57, 62, 67, 72, 77, 82], 47) := by decide +kernel
theorem dX10_many_48 : decode cX10_many 48 = .ok (.aload_n 0, 1) := by decide +kernel
theorem dX10_many_49 : decode cX10_many 49 = .ok (.getfield 124, 3) := by decide +kernel
theorem dX10_many_52 : decode cX10_many 52 = .ok (.ireturn, 1) := by decide +kernel
theorem dX10_many_53 : decode cX10_many 53 = .ok (.aload_n 0, 1) := by decide +kernel
theorem dX10_many_54 : decode cX10_many 54 = .ok (.getfield 186, 3) := by decide +kernel
theorem dX10_many_57 : decode cX10_many 57 = .ok (.ireturn, 1) := by decide +kernel
theorem dX10_many_58 : decode cX10_many 58 = .ok (.aload_n 0, 1) := by decide +kernel
theorem dX10_many_59 : decode cX10_many 59 = .ok (.getfield 226, 3) := by decide +kernel
theorem dX10_many_62 : decode cX10_many 62 = .ok (.ireturn, 1) := by decide +kernel
theorem dX10_many_63 : decode cX10_many 63 = .ok (.aload_n 0, 1) := by decide +kernel
theorem dX10_many_64 : decode cX10_many 64 = .ok (.getfield 235, 3) := by decide +kernel
theorem dX10_many_67 : decode cX10_many 67 = .ok (.ireturn, 1) := by decide +kernel
theorem dX10_many_68 : decode cX10_many 68 = .ok (.aload_n 0, 1) := by decide +kernel
theorem dX10_many_69 : decode cX10_many 69 = .ok (.getfield 223, 3) := by decide +kernel
theorem dX10_many_72 : decode cX10_many 72 = .ok (.ireturn, 1) := by decide +kernel
theorem dX10_many_73 : decode cX10_many 73 = .ok (.aload_n 0, 1) := by decide +kernel
theorem dX10_many_74 : decode cX10_many 74 = .ok (.getfield 220, 3) := by decide +kernel
theorem dX10_many_77 : decode cX10_many 77 = .ok (.ireturn, 1) := by decide +kernel
theorem dX10_many_78 : decode cX10_many 78 = .ok (.aload_n 0, 1) := by decide +kernel
theorem dX10_many_79 : decode cX10_many 79 = .ok (.invokevirtual 246, 3) := by decide +kernel
theorem dX10_many_82 : decode cX10_many 82 = .ok (.ireturn, 1) := by decide +kernel
theorem dX10_many_83 : decode cX10_many 83 = .ok (.aload_n 0, 1) := by decide +kernel
theorem dX10_many_84 : decode cX10_many 84 = .ok (.getfield 232, 3) := by decide +kernel
theorem dX10_many_87 : decode cX10_many 87 = .ok (.ireturn, 1) := by decide +kernel
theorem dX10_many_88 : decode cX10_many 88 = .ok (.iconst (-1), 1) := by decide +kernel
theorem dX10_many_89 : decode cX10_many 89 = .ok (.ireturn, 1) := by decide +kernel
theorem dX10_rawAt_0 : decode cX10_rawAt 0 = .ok (.aload_n 0, 1) := by decide +kernel
theorem dX10_rawAt_1 : decode cX10_rawAt 1 = .ok (.getfield 223, 3) := by decide +kernel
theorem dX10_rawAt_4 : decode cX10_rawAt 4 = .ok (.iconst 1, 1) := by decide +kernel
theorem dX10_rawAt_5 : decode cX10_rawAt 5 = .ok (.isub, 1) := by decide +kernel
theorem dX10_rawAt_6 : decode cX10_rawAt 6 = .ok (.iload_n 1, 1) := by decide +kernel
theorem dX10_rawAt_7 : decode cX10_rawAt 7 = .ok (.isub, 1) := by decide +kernel
theorem dX10_rawAt_8 : decode cX10_rawAt 8 = .ok (.bipush 30, 2) := by decide +kernel
theorem dX10_rawAt_10 : decode cX10_rawAt 10 = .ok (.irem, 1) := by decide +kernel
theorem dX10_rawAt_11 : decode cX10_rawAt 11 = .ok (.ireturn, 1) := by decide +kernel
theorem dX10_raw_0 : decode cX10_raw 0 = .ok (.iload_n 1, 1) := by decide +kernel
theorem dX10_raw_1 : decode cX10_raw 1 = .ok (.i2l, 1) := by decide +kernel
theorem dX10_raw_2 : decode cX10_raw 2 = .ok (.lconst 0, 1) := by decide +kernel
theorem dX10_raw_3 : decode cX10_raw 3 = .ok (.aload_n 0, 1) := by decide +kernel
theorem dX10_raw_4 : decode cX10_raw 4 = .ok (.invokevirtual 246, 3) := by decide +kernel
theorem dX10_raw_7 : decode cX10_raw 7 = .ok (.iconst 1, 1) := by decide +kernel
theorem dX10_raw_8 : decode cX10_raw 8 = .ok (.isub, 1) := by decide +kernel
theorem dX10_raw_9 : decode cX10_raw 9 = .ok (.i2l, 1) := by decide +kernel
theorem dX10_raw_10 : decode cX10_raw 10 = .ok (.invokestatic 95, 3) := by decide +kernel
theorem dX10_raw_13 : decode cX10_raw 13 = .ok (.ifCond .eq 15, 3) := by decide +kernel
theorem dX10_raw_16 : decode cX10_raw 16 = .ok (.iload_n 2, 1) := by decide +kernel
theorem dX10_raw_17 : decode cX10_raw 17 = .ok (.i2l, 1) := by decide +kernel
theorem dX10_raw_18 : decode cX10_raw 18 = .ok (.lconst 0, 1) := by decide +kernel
theorem dX10_raw_19 : decode cX10_raw 19 = .ok (.ldc2_w 249, 3) := by decide +kernel
theorem dX10_raw_22 : decode cX10_raw 22 = .ok (.invokestatic 95, 3) := by decide +kernel
theorem dX10_raw_25 : decode cX10_raw 25 = .ok (.ifCond .ne 5, 3) := by decide +kernel
theorem dX10_raw_28 : decode cX10_raw 28 = .ok (.iconst (-1), 1) := by decide +kernel
theorem dX10_raw_29 : decode cX10_raw 29 = .ok (.ireturn, 1) := by decide +kernel
theorem dX10_raw_30 : decode cX10_raw 30 = .ok (.aload_n 0, 1) := by decide +kernel
theorem dX10_raw_31 : decode cX10_raw 31 = .ok (.iload_n 1, 1) := by decide +kernel
theorem dX10_raw_32 : decode cX10_raw 32 = .ok (.invokevirtual 251, 3) := by decide +kernel
theorem dX10_raw_35 : decode cX10_raw 35 = .ok (.istore_n 3, 1) := by decide +kernel
theorem dX10_raw_36 : decode cX10_raw 36 = .ok (.iload_n 2, 1) := by decide +kernel
theorem dX10_raw_37 : decode cX10_raw 37 = .ok (.ifCond .ne 10, 3) := by decide +kernel
theorem dX10_raw_40 : decode cX10_raw 40 = .ok (.aload_n 0, 1) := by decide +kernel
theorem dX10_raw_41 : decode cX10_raw 41 = .ok (.getfield 63, 3) := by decide +kernel
theorem dX10_raw_44 : decode cX10_raw 44 = .ok (.iload_n 3, 1) := by decide +kernel
theorem dX10_raw_45 : decode cX10_raw 45 = .ok (.iaload, 1) := by decide +kernel
theorem dX10_raw_46 : decode cX10_raw 46 = .ok (.ireturn, 1) := by decide +kernel
theorem dX10_raw_47 : decode cX10_raw 47 = .ok (.iload_n 2, 1) := by decide +kernel
theorem dX10_raw_48 : decode cX10_raw 48 = .ok (.iconst 1, 1) := by decide +kernel
theorem dX10_raw_49 : decode cX10_raw 49 = .ok (.if_icmp .ne 10, 3) := by decide +kernel
theorem dX10_raw_52 : decode cX10_raw 52 = .ok (.aload_n 0, 1) := by decide +kernel
theorem dX10_raw_53 : decode cX10_raw 53 = .ok (.getfield 66, 3) := by decide +kernel
theorem dX10_raw_56 : decode cX10_raw 56 = .ok (.iload_n 3, 1) := by decide +kernel
theorem dX10_raw_57 : decode cX10_raw 57 = .ok (.iaload, 1) := by decide +kernel
theorem dX10_raw_58 : decode cX10_raw 58 = .ok (.ireturn, 1) := by decide +kernel
theorem dX10_raw_59 : decode cX10_raw 59 = .ok (.iload_n 2, 1) := by decide +kernel
theorem dX10_raw_60 : decode cX10_raw 60 = .ok (.bipush 7, 2) := by decide +kernel
theorem dX10_raw_62 : decode cX10_raw 62 = .ok (.if_icmp .ge 16, 3) := by decide +kernel
theorem dX10_raw_65 : decode cX10_raw 65 = .ok (.aload_n 0, 1) := by decide +kernel
theorem dX10_raw_66 : decode cX10_raw 66 = .ok (.getfield 69, 3) := by decide +kernel
theorem dX10_raw_69 : decode cX10_raw 69 = .ok (.iconst 5, 1) := by decide +kernel
theorem dX10_raw_70 : decode cX10_raw 70 = .ok (.iload_n 3, 1) := by decide +kernel
theorem dX10_raw_71 : decode cX10_raw 71 = .ok (.imul, 1) := by decide +kernel
theorem dX10_raw_72 : decode cX10_raw 72 = .ok (.iload_n 2, 1) := by decide +kernel
theorem dX10_raw_73 : decode cX10_raw 73 = .ok (.iadd, 1) := by decide +kernel
theorem dX10_raw_74 : decode cX10_raw 74 = .ok (.iconst 2, 1) := by decide +kernel
theorem dX10_raw_75 : decode cX10_raw 75 = .ok (.isub, 1) := by decide +kernel
theorem dX10_raw_76 : decode cX10_raw 76 = .ok (.iaload, 1) := by decide +kernel
theorem dX10_raw_77 : decode cX10_raw 77 = .ok (.ireturn, 1) := by decide +kernel
theorem dX10_raw_78 : decode cX10_raw 78 = .ok (.iconst 0, 1) := by decide +kernel
theorem dX10_raw_79 : decode cX10_raw 79 = .ok (.istore 4, 2) := by decide +kernel
theorem dX10_raw_81 : decode cX10_raw 81 = .ok (.iload 4, 2) := by decide +kernel
theorem dX10_raw_83 : decode cX10_raw 83 = .ok (.iconst 5, 1) := by decide +kernel
theorem dX10_raw_84 : decode cX10_raw 84 = .ok (.if_icmp .ge 41, 3) := by decide +kernel
theorem dX10_raw_87 : decode cX10_raw 87 = .ok (.aload_n 0, 1) := by decide +kernel
theorem dX10_raw_88 : decode cX10_raw 88 = .ok (.getfield 90, 3) := by decide +kernel
theorem dX10_raw_91 : decode cX10_raw 91 = .ok (.iload 4, 2) := by decide +kernel
theorem dX10_raw_93 : decode cX10_raw 93 = .ok (.aload_n 0, 1) := by decide +kernel
theorem dX10_raw_94 : decode cX10_raw 94 = .ok (.getfield 19, 3) := by decide +kernel
theorem dX10_raw_97 : decode cX10_raw 97 = .ok (.iload 4, 2) := by decide +kernel
theorem dX10_raw_99 : decode cX10_raw 99 = .ok (.iaload, 1) := by decide +kernel
theorem dX10_raw_100 : decode cX10_raw 100 = .ok (.iastore, 1) := by decide +kernel
theorem dX10_raw_101 : decode cX10_raw 101 = .ok (.aload_n 0, 1) := by decide +kernel
theorem dX10_raw_102 : decode cX10_raw 102 = .ok (.getfield 19, 3) := by decide +kernel
theorem dX10_raw_105 : decode cX10_raw 105 = .ok (.iload 4, 2) := by decide +kernel
theorem dX10_raw_107 : decode cX10_raw 107 = .ok (.aload_n 0, 1) := by decide +kernel
theorem dX10_raw_108 : decode cX10_raw 108 = .ok (.getfield 69, 3) := by decide +kernel
theorem dX10_raw_111 : decode cX10_raw 111 = .ok (.iconst 5, 1) := by decide +kernel
theorem dX10_raw_112 : decode cX10_raw 112 = .ok (.iload_n 3, 1) := by decide +kernel
theorem dX10_raw_113 : decode cX10_raw 113 = .ok (.imul, 1) := by decide +kernel
theorem dX10_raw_114 : decode cX10_raw 114 = .ok (.iload 4, 2) := by decide +kernel
theorem dX10_raw_116 : decode cX10_raw 116 = .ok (.iadd, 1) := by decide +kernel
theorem dX10_raw_117 : decode cX10_raw 117 = .ok (.iaload, 1) := by decide +kernel
theorem dX10_raw_118 : decode cX10_raw 118 = .ok (.iastore, 1) := by decide +kernel
theorem dX10_raw_119 : decode cX10_raw 119 = .ok (.iinc 4 1, 3) := by decide +kernel
theorem dX10_raw_122 : decode cX10_raw 122 = .ok (.goto (-41), 3) := by decide +kernel
theorem dX10_raw_125 : decode cX10_raw 125 = .ok (.aload_n 0, 1) := by decide +kernel
theorem dX10_raw_126 : decode cX10_raw 126 = .ok (.invokevirtual 217, 3) := by decide +kernel
theorem dX10_raw_129 : decode cX10_raw 129 = .ok (.istore 4, 2) := by decide +kernel
theorem dX10_raw_131 : decode cX10_raw 131 = .ok (.iconst 0, 1) := by decide +kernel
theorem dX10_raw_132 : decode cX10_raw 132 = .ok (.istore 5, 2) := by decide +kernel
theorem dX10_raw_134 : decode cX10_raw 134 = .ok (.iload 5, 2) := by decide +kernel
theorem dX10_raw_136 : decode cX10_raw 136 = .ok (.iconst 5, 1) := by decide +kernel
theorem dX10_raw_137 : decode cX10_raw 137 = .ok (.if_icmp .ge 23, 3) := by decide +kernel
theorem dX10_raw_140 : decode cX10_raw 140 = .ok (.aload_n 0, 1) := by decide +kernel
theorem dX10_raw_141 : decode cX10_raw 141 = .ok (.getfield 19, 3) := by decide +kernel
theorem dX10_raw_144 : decode cX10_raw 144 = .ok (.iload 5, 2) := by decide +kernel
theorem dX10_raw_146 : decode cX10_raw 146 = .ok (.aload_n 0, 1) := by decide +kernel
theorem dX10_raw_147 : decode cX10_raw 147 = .ok (.getfield 90, 3) := by decide +kernel
theorem dX10_raw_150 : decode cX10_raw 150 = .ok (.iload 5, 2) := by decide +kernel
theorem dX10_raw_152 : decode cX10_raw 152 = .ok (.iaload, 1) := by decide +kernel
theorem dX10_raw_153 : decode cX10_raw 153 = .ok (.iastore, 1) := by decide +kernel
theorem dX10_raw_154 : decode cX10_raw 154 = .ok (.iinc 5 1, 3) := by decide +kernel
theorem dX10_raw_157 : decode cX10_raw 157 = .ok (.goto (-23), 3) := by decide +kernel
theorem dX10_raw_160 : decode cX10_raw 160 = .ok (.iload 4, 2) := by decide +kernel
theorem dX10_raw_162 : decode cX10_raw 162 = .ok (.ireturn, 1) := by decide +kernel
theorem dX10_again_0 : decode cX10_again 0 = .ok (.iload_n 1, 1) := by decide +kernel
theorem dX10_again_1 : decode cX10_again 1 = .ok (.i2l, 1) := by decide +kernel
theorem dX10_again_2 : decode cX10_again 2 = .ok (.lconst 0, 1) := by decide +kernel
theorem dX10_again_3 : decode cX10_again 3 = .ok (.aload_n 0, 1) := by decide +kernel
theorem dX10_again_4 : decode cX10_again 4 = .ok (.invokevirtual 246, 3) := by decide +kernel
theorem dX10_again_7 : decode cX10_again 7 = .ok (.iconst 1, 1) := by decide +kernel
theorem dX10_again_8 : decode cX10_again 8 = .ok (.isub, 1) := by decide +kernel
theorem dX10_again_9 : decode cX10_again 9 = .ok (.i2l, 1) := by decide +kernel
theorem dX10_again_10 : decode cX10_again 10 = .ok (.invokestatic 95, 3) := by decide +kernel
theorem dX10_again_13 : decode cX10_again 13 = .ok (.ifCond .ne 5, 3) := by decide +kernel
theorem dX10_again_16 : decode cX10_again 16 = .ok (.iconst (-1), 1) := by decide +kernel
theorem dX10_again_17 : decode cX10_again 17 = .ok (.ireturn, 1) := by decide +kernel
theorem dX10_again_18 : decode cX10_again 18 = .ok (.aload_n 0, 1) := by decide +kernel
theorem dX10_again_19 : decode cX10_again 19 = .ok (.iload_n 1, 1) := by decide +kernel
theorem dX10_again_20 : decode cX10_again 20 = .ok (.invokevirtual 251, 3) := by decide +kernel
theorem dX10_again_23 : decode cX10_again 23 = .ok (.istore_n 2, 1) := by decide +kernel
theorem dX10_again_24 : decode cX10_again 24 = .ok (.iconst 0, 1) := by decide +kernel
theorem dX10_again_25 : decode cX10_again 25 = .ok (.istore_n 3, 1) := by decide +kernel
theorem dX10_again_26 : decode cX10_again 26 = .ok (.iload_n 3, 1) := by decide +kernel
theorem dX10_again_27 : decode cX10_again 27 = .ok (.iconst 5, 1) := by decide +kernel
theorem dX10_again_28 : decode cX10_again 28 = .ok (.if_icmp .ge 25, 3) := by decide +kernel
theorem dX10_again_31 : decode cX10_again 31 = .ok (.aload_n 0, 1) := by decide +kernel
theorem dX10_again_32 : decode cX10_again 32 = .ok (.getfield 19, 3) := by decide +kernel
theorem dX10_again_35 : decode cX10_again 35 = .ok (.iload_n 3, 1) := by decide +kernel
theorem dX10_again_36 : decode cX10_again 36 = .ok (.aload_n 0, 1) := by decide +kernel
theorem dX10_again_37 : decode cX10_again 37 = .ok (.getfield 69, 3) := by decide +kernel
theorem dX10_again_40 : decode cX10_again 40 = .ok (.iconst 5, 1) := by decide +kernel
theorem dX10_again_41 : decode cX10_again 41 = .ok (.iload_n 2, 1) := by decide +kernel
theorem dX10_again_42 : decode cX10_again 42 = .ok (.imul, 1) := by decide +kernel
theorem dX10_again_43 : decode cX10_again 43 = .ok (.iload_n 3, 1) := by decide +kernel
theorem dX10_again_44 : decode cX10_again 44 = .ok (.iadd, 1) := by decide +kernel
theorem dX10_again_45 : decode cX10_again 45 = .ok (.iaload, 1) := by decide +kernel
theorem dX10_again_46 : decode cX10_again 46 = .ok (.iastore, 1) := by decide +kernel
theorem dX10_again_47 : decode cX10_again 47 = .ok (.iinc 3 1, 3) := by decide +kernel
theorem dX10_again_50 : decode cX10_again 50 = .ok (.goto (-24), 3) := by decide +kernel
theorem dX10_again_53 : decode cX10_again 53 = .ok (.aload_n 0, 1) := by decide +kernel
theorem dX10_again_54 : decode cX10_again 54 = .ok (.invokevirtual 112, 3) := by decide +kernel
theorem dX10_again_57 : decode cX10_again 57 = .ok (.ireturn, 1) := by decide +kernel
theorem dX10_anew_0 : decode cX10_anew 0 = .ok (.aload_n 0, 1) := by decide +kernel
theorem dX10_anew_1 : decode cX10_anew 1 = .ok (.getfield 226, 3) := by decide +kernel
theorem dX10_anew_4 : decode cX10_anew 4 = .ok (.istore_n 1, 1) := by decide +kernel
theorem dX10_anew_5 : decode cX10_anew 5 = .ok (.aload_n 0, 1) := by decide +kernel
theorem dX10_anew_6 : decode cX10_anew 6 = .ok (.iconst 0, 1) := by decide +kernel
theorem dX10_anew_7 : decode cX10_anew 7 = .ok (.putfield 226, 3) := by decide +kernel
theorem dX10_anew_10 : decode cX10_anew 10 = .ok (.aload_n 0, 1) := by decide +kernel
theorem dX10_anew_11 : decode cX10_anew 11 = .ok (.iconst 0, 1) := by decide +kernel
theorem dX10_anew_12 : decode cX10_anew 12 = .ok (.putfield 235, 3) := by decide +kernel
theorem dX10_anew_15 : decode cX10_anew 15 = .ok (.aload_n 0, 1) := by decide +kernel
theorem dX10_anew_16 : decode cX10_anew 16 = .ok (.iconst 0, 1) := by decide +kernel
theorem dX10_anew_17 : decode cX10_anew 17 = .ok (.putfield 223, 3) := by decide +kernel
theorem dX10_anew_20 : decode cX10_anew 20 = .ok (.aload_n 0, 1) := by decide +kernel
theorem dX10_anew_21 : decode cX10_anew 21 = .ok (.iconst 0, 1) := by decide +kernel
theorem dX10_anew_22 : decode cX10_anew 22 = .ok (.putfield 220, 3) := by decide +kernel
theorem dX10_anew_25 : decode cX10_anew 25 = .ok (.aload_n 0, 1) := by decide +kernel
theorem dX10_anew_26 : decode cX10_anew 26 = .ok (.iconst 0, 1) := by decide +kernel
theorem dX10_anew_27 : decode cX10_anew 27 = .ok (.putfield 232, 3) := by decide +kernel
theorem dX10_anew_30 : decode cX10_anew 30 = .ok (.iconst 0, 1) := by decide +kernel
theorem dX10_anew_31 : decode cX10_anew 31 = .ok (.istore_n 2, 1) := by decide +kernel
theorem dX10_anew_32 : decode cX10_anew 32 = .ok (.iload_n 2, 1) := by decide +kernel
theorem dX10_anew_33 : decode cX10_anew 33 = .ok (.bipush 8, 2) := by decide +kernel
theorem dX10_anew_35 : decode cX10_anew 35 = .ok (.if_icmp .ge 37, 3) := by decide +kernel
theorem dX10_anew_38 : decode cX10_anew 38 = .ok (.aload_n 0, 1) := by decide +kernel
theorem dX10_anew_39 : decode cX10_anew 39 = .ok (.getfield 51, 3) := by decide +kernel
theorem dX10_anew_42 : decode cX10_anew 42 = .ok (.iload_n 2, 1) := by decide +kernel
theorem dX10_anew_43 : decode cX10_anew 43 = .ok (.iconst 0, 1) := by decide +kernel
theorem dX10_anew_44 : decode cX10_anew 44 = .ok (.iastore, 1) := by decide +kernel
theorem dX10_anew_45 : decode cX10_anew 45 = .ok (.aload_n 0, 1) := by decide +kernel
theorem dX10_anew_46 : decode cX10_anew 46 = .ok (.getfield 54, 3) := by decide +kernel
theorem dX10_anew_49 : decode cX10_anew 49 = .ok (.iload_n 2, 1) := by decide +kernel
theorem dX10_anew_50 : decode cX10_anew 50 = .ok (.iconst 0, 1) := by decide +kernel
theorem dX10_anew_51 : decode cX10_anew 51 = .ok (.iastore, 1) := by decide +kernel
theorem dX10_anew_52 : decode cX10_anew 52 = .ok (.aload_n 0, 1) := by decide +kernel
theorem dX10_anew_53 : decode cX10_anew 53 = .ok (.getfield 57, 3) := by decide +kernel
theorem dX10_anew_56 : decode cX10_anew 56 = .ok (.iload_n 2, 1) := by decide +kernel
theorem dX10_anew_57 : decode cX10_anew 57 = .ok (.iconst 0, 1) := by decide +kernel
theorem dX10_anew_58 : decode cX10_anew 58 = .ok (.iastore, 1) := by decide +kernel
theorem dX10_anew_59 : decode cX10_anew 59 = .ok (.aload_n 0, 1) := by decide +kernel
theorem dX10_anew_60 : decode cX10_anew 60 = .ok (.getfield 60, 3) := by decide +kernel
theorem dX10_anew_63 : decode cX10_anew 63 = .ok (.iload_n 2, 1) := by decide +kernel
theorem dX10_anew_64 : decode cX10_anew 64 = .ok (.iconst 0, 1) := by decide +kernel
theorem dX10_anew_65 : decode cX10_anew 65 = .ok (.iastore, 1) := by decide +kernel
theorem dX10_anew_66 : decode cX10_anew 66 = .ok (.iinc 2 1, 3) := by decide +kernel
theorem dX10_anew_69 : decode cX10_anew 69 = .ok (.goto (-37), 3) := by decide +kernel
theorem dX10_anew_72 : decode cX10_anew 72 = .ok (.iload_n 1, 1) := by decide +kernel
theorem dX10_anew_73 : decode cX10_anew 73 = .ok (.ireturn, 1) := by decide +kernel
