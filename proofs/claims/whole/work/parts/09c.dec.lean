theorem dX10_init_0 : decode cX10_init 0 = .ok (.aload_n 0, 1) := by decide +kernel
theorem dX10_init_1 : decode cX10_init 1 = .ok (.invokespecial 1, 3) := by decide +kernel
theorem dX10_init_4 : decode cX10_init 4 = .ok (.aload_n 0, 1) := by decide +kernel
theorem dX10_init_5 : decode cX10_init 5 = .ok (.iconst 3, 1) := by decide +kernel
theorem dX10_init_6 : decode cX10_init 6 = .ok (.newarray .int, 2) := by decide +kernel
theorem dX10_init_8 : decode cX10_init 8 = .ok (.putfield 9, 3) := by decide +kernel
theorem dX10_init_11 : decode cX10_init 11 = .ok (.aload_n 0, 1) := by decide +kernel
theorem dX10_init_12 : decode cX10_init 12 = .ok (.iconst 3, 1) := by decide +kernel
theorem dX10_init_13 : decode cX10_init 13 = .ok (.newarray .int, 2) := by decide +kernel
theorem dX10_init_15 : decode cX10_init 15 = .ok (.putfield 13, 3) := by decide +kernel
theorem dX10_init_18 : decode cX10_init 18 = .ok (.aload_n 0, 1) := by decide +kernel
theorem dX10_init_19 : decode cX10_init 19 = .ok (.bipush 60, 2) := by decide +kernel
theorem dX10_init_21 : decode cX10_init 21 = .ok (.newarray .int, 2) := by decide +kernel
theorem dX10_init_23 : decode cX10_init 23 = .ok (.putfield 16, 3) := by decide +kernel
theorem dX10_init_26 : decode cX10_init 26 = .ok (.aload_n 0, 1) := by decide +kernel
theorem dX10_init_27 : decode cX10_init 27 = .ok (.iconst 5, 1) := by decide +kernel
theorem dX10_init_28 : decode cX10_init 28 = .ok (.newarray .int, 2) := by decide +kernel
theorem dX10_init_30 : decode cX10_init 30 = .ok (.putfield 19, 3) := by decide +kernel
theorem dX10_init_33 : decode cX10_init 33 = .ok (.aload_n 0, 1) := by decide +kernel
theorem dX10_init_34 : decode cX10_init 34 = .ok (.iconst 5, 1) := by decide +kernel
theorem dX10_init_35 : decode cX10_init 35 = .ok (.newarray .int, 2) := by decide +kernel
theorem dX10_init_37 : decode cX10_init 37 = .ok (.putfield 22, 3) := by decide +kernel
theorem dX10_init_40 : decode cX10_init 40 = .ok (.aload_n 0, 1) := by decide +kernel
theorem dX10_init_41 : decode cX10_init 41 = .ok (.iconst 5, 1) := by decide +kernel
theorem dX10_init_42 : decode cX10_init 42 = .ok (.newarray .int, 2) := by decide +kernel
theorem dX10_init_44 : decode cX10_init 44 = .ok (.putfield 25, 3) := by decide +kernel
theorem dX10_init_47 : decode cX10_init 47 = .ok (.aload_n 0, 1) := by decide +kernel
theorem dX10_init_48 : decode cX10_init 48 = .ok (.bipush 60, 2) := by decide +kernel
theorem dX10_init_50 : decode cX10_init 50 = .ok (.newarray .int, 2) := by decide +kernel
theorem dX10_init_52 : decode cX10_init 52 = .ok (.putfield 28, 3) := by decide +kernel
theorem dX10_init_55 : decode cX10_init 55 = .ok (.aload_n 0, 1) := by decide +kernel
theorem dX10_init_56 : decode cX10_init 56 = .ok (.bipush 12, 2) := by decide +kernel
theorem dX10_init_58 : decode cX10_init 58 = .ok (.newarray .int, 2) := by decide +kernel
theorem dX10_init_60 : decode cX10_init 60 = .ok (.putfield 31, 3) := by decide +kernel
theorem dX10_init_63 : decode cX10_init 63 = .ok (.aload_n 0, 1) := by decide +kernel
theorem dX10_init_64 : decode cX10_init 64 = .ok (.bipush 60, 2) := by decide +kernel
theorem dX10_init_66 : decode cX10_init 66 = .ok (.newarray .byte, 2) := by decide +kernel
theorem dX10_init_68 : decode cX10_init 68 = .ok (.putfield 34, 3) := by decide +kernel
theorem dX10_init_71 : decode cX10_init 71 = .ok (.aload_n 0, 1) := by decide +kernel
theorem dX10_init_72 : decode cX10_init 72 = .ok (.sipush 480, 3) := by decide +kernel
theorem dX10_init_75 : decode cX10_init 75 = .ok (.newarray .byte, 2) := by decide +kernel
theorem dX10_init_77 : decode cX10_init 77 = .ok (.putfield 38, 3) := by decide +kernel
theorem dX10_init_80 : decode cX10_init 80 = .ok (.aload_n 0, 1) := by decide +kernel
theorem dX10_init_81 : decode cX10_init 81 = .ok (.bipush 8, 2) := by decide +kernel
theorem dX10_init_83 : decode cX10_init 83 = .ok (.newarray .int, 2) := by decide +kernel
theorem dX10_init_85 : decode cX10_init 85 = .ok (.putfield 41, 3) := by decide +kernel
theorem dX10_init_88 : decode cX10_init 88 = .ok (.aload_n 0, 1) := by decide +kernel
theorem dX10_init_89 : decode cX10_init 89 = .ok (.bipush 8, 2) := by decide +kernel
theorem dX10_init_91 : decode cX10_init 91 = .ok (.newarray .int, 2) := by decide +kernel
theorem dX10_init_93 : decode cX10_init 93 = .ok (.putfield 44, 3) := by decide +kernel
theorem dX10_init_96 : decode cX10_init 96 = .ok (.aload_n 0, 1) := by decide +kernel
theorem dX10_init_97 : decode cX10_init 97 = .ok (.bipush 8, 2) := by decide +kernel
theorem dX10_init_99 : decode cX10_init 99 = .ok (.newarray .boolean, 2) := by decide +kernel
theorem dX10_init_101 : decode cX10_init 101 = .ok (.putfield 47, 3) := by decide +kernel
theorem dX10_init_104 : decode cX10_init 104 = .ok (.aload_n 0, 1) := by decide +kernel
theorem dX10_init_105 : decode cX10_init 105 = .ok (.bipush 8, 2) := by decide +kernel
theorem dX10_init_107 : decode cX10_init 107 = .ok (.newarray .int, 2) := by decide +kernel
theorem dX10_init_109 : decode cX10_init 109 = .ok (.putfield 51, 3) := by decide +kernel
theorem dX10_init_112 : decode cX10_init 112 = .ok (.aload_n 0, 1) := by decide +kernel
theorem dX10_init_113 : decode cX10_init 113 = .ok (.bipush 8, 2) := by decide +kernel
theorem dX10_init_115 : decode cX10_init 115 = .ok (.newarray .int, 2) := by decide +kernel
theorem dX10_init_117 : decode cX10_init 117 = .ok (.putfield 54, 3) := by decide +kernel
theorem dX10_init_120 : decode cX10_init 120 = .ok (.aload_n 0, 1) := by decide +kernel
theorem dX10_init_121 : decode cX10_init 121 = .ok (.bipush 8, 2) := by decide +kernel
theorem dX10_init_123 : decode cX10_init 123 = .ok (.newarray .int, 2) := by decide +kernel
theorem dX10_init_125 : decode cX10_init 125 = .ok (.putfield 57, 3) := by decide +kernel
theorem dX10_init_128 : decode cX10_init 128 = .ok (.aload_n 0, 1) := by decide +kernel
theorem dX10_init_129 : decode cX10_init 129 = .ok (.bipush 8, 2) := by decide +kernel
theorem dX10_init_131 : decode cX10_init 131 = .ok (.newarray .int, 2) := by decide +kernel
theorem dX10_init_133 : decode cX10_init 133 = .ok (.putfield 60, 3) := by decide +kernel
theorem dX10_init_136 : decode cX10_init 136 = .ok (.aload_n 0, 1) := by decide +kernel
theorem dX10_init_137 : decode cX10_init 137 = .ok (.bipush 30, 2) := by decide +kernel
theorem dX10_init_139 : decode cX10_init 139 = .ok (.newarray .int, 2) := by decide +kernel
theorem dX10_init_141 : decode cX10_init 141 = .ok (.putfield 63, 3) := by decide +kernel
theorem dX10_init_144 : decode cX10_init 144 = .ok (.aload_n 0, 1) := by decide +kernel
theorem dX10_init_145 : decode cX10_init 145 = .ok (.bipush 30, 2) := by decide +kernel
theorem dX10_init_147 : decode cX10_init 147 = .ok (.newarray .int, 2) := by decide +kernel
theorem dX10_init_149 : decode cX10_init 149 = .ok (.putfield 66, 3) := by decide +kernel
theorem dX10_init_152 : decode cX10_init 152 = .ok (.aload_n 0, 1) := by decide +kernel
theorem dX10_init_153 : decode cX10_init 153 = .ok (.sipush 150, 3) := by decide +kernel
theorem dX10_init_156 : decode cX10_init 156 = .ok (.newarray .int, 2) := by decide +kernel
theorem dX10_init_158 : decode cX10_init 158 = .ok (.putfield 69, 3) := by decide +kernel
theorem dX10_init_161 : decode cX10_init 161 = .ok (.aload_n 0, 1) := by decide +kernel
theorem dX10_init_162 : decode cX10_init 162 = .ok (.iconst 5, 1) := by decide +kernel
theorem dX10_init_163 : decode cX10_init 163 = .ok (.newarray .int, 2) := by decide +kernel
theorem dX10_init_165 : decode cX10_init 165 = .ok (.putfield 72, 3) := by decide +kernel
theorem dX10_init_168 : decode cX10_init 168 = .ok (.aload_n 0, 1) := by decide +kernel
theorem dX10_init_169 : decode cX10_init 169 = .ok (.iconst 5, 1) := by decide +kernel
theorem dX10_init_170 : decode cX10_init 170 = .ok (.newarray .int, 2) := by decide +kernel
theorem dX10_init_172 : decode cX10_init 172 = .ok (.putfield 75, 3) := by decide +kernel
theorem dX10_init_175 : decode cX10_init 175 = .ok (.aload_n 0, 1) := by decide +kernel
theorem dX10_init_176 : decode cX10_init 176 = .ok (.bipush 60, 2) := by decide +kernel
theorem dX10_init_178 : decode cX10_init 178 = .ok (.newarray .int, 2) := by decide +kernel
theorem dX10_init_180 : decode cX10_init 180 = .ok (.putfield 78, 3) := by decide +kernel
theorem dX10_init_183 : decode cX10_init 183 = .ok (.aload_n 0, 1) := by decide +kernel
theorem dX10_init_184 : decode cX10_init 184 = .ok (.bipush 12, 2) := by decide +kernel
theorem dX10_init_186 : decode cX10_init 186 = .ok (.newarray .int, 2) := by decide +kernel
theorem dX10_init_188 : decode cX10_init 188 = .ok (.putfield 81, 3) := by decide +kernel
theorem dX10_init_191 : decode cX10_init 191 = .ok (.aload_n 0, 1) := by decide +kernel
theorem dX10_init_192 : decode cX10_init 192 = .ok (.bipush 12, 2) := by decide +kernel
theorem dX10_init_194 : decode cX10_init 194 = .ok (.newarray .int, 2) := by decide +kernel
theorem dX10_init_196 : decode cX10_init 196 = .ok (.putfield 84, 3) := by decide +kernel
theorem dX10_init_199 : decode cX10_init 199 = .ok (.aload_n 0, 1) := by decide +kernel
theorem dX10_init_200 : decode cX10_init 200 = .ok (.bipush 20, 2) := by decide +kernel
theorem dX10_init_202 : decode cX10_init 202 = .ok (.newarray .int, 2) := by decide +kernel
theorem dX10_init_204 : decode cX10_init 204 = .ok (.putfield 87, 3) := by decide +kernel
theorem dX10_init_207 : decode cX10_init 207 = .ok (.aload_n 0, 1) := by decide +kernel
theorem dX10_init_208 : decode cX10_init 208 = .ok (.iconst 5, 1) := by decide +kernel
theorem dX10_init_209 : decode cX10_init 209 = .ok (.newarray .int, 2) := by decide +kernel
theorem dX10_init_211 : decode cX10_init 211 = .ok (.putfield 90, 3) := by decide +kernel
theorem dX10_init_214 : decode cX10_init 214 = .ok (.iconst 0, 1) := by decide +kernel
theorem dX10_init_215 : decode cX10_init 215 = .ok (.istore_n 1, 1) := by decide +kernel
theorem dX10_init_216 : decode cX10_init 216 = .ok (.iload_n 1, 1) := by decide +kernel
theorem dX10_init_217 : decode cX10_init 217 = .ok (.iconst 3, 1) := by decide +kernel
theorem dX10_init_218 : decode cX10_init 218 = .ok (.if_icmp .ge 16, 3) := by decide +kernel
theorem dX10_init_221 : decode cX10_init 221 = .ok (.aload_n 0, 1) := by decide +kernel
theorem dX10_init_222 : decode cX10_init 222 = .ok (.getfield 13, 3) := by decide +kernel
theorem dX10_init_225 : decode cX10_init 225 = .ok (.iload_n 1, 1) := by decide +kernel
theorem dX10_init_226 : decode cX10_init 226 = .ok (.iconst (-1), 1) := by decide +kernel
theorem dX10_init_227 : decode cX10_init 227 = .ok (.iastore, 1) := by decide +kernel
theorem dX10_init_228 : decode cX10_init 228 = .ok (.iinc 1 1, 3) := by decide +kernel
theorem dX10_init_231 : decode cX10_init 231 = .ok (.goto (-15), 3) := by decide +kernel
theorem dX10_init_234 : decode cX10_init 234 = .ok (.return_, 1) := by decide +kernel
theorem dX10_in_0 : decode cX10_in 0 = .ok (.lload_n 0, 1) := by decide +kernel
theorem dX10_in_1 : decode cX10_in 1 = .ok (.lload_n 2, 1) := by decide +kernel
theorem dX10_in_2 : decode cX10_in 2 = .ok (.lcmp, 1) := by decide +kernel
theorem dX10_in_3 : decode cX10_in 3 = .ok (.ifCond .lt 14, 3) := by decide +kernel
theorem dX10_in_6 : decode cX10_in 6 = .ok (.lload_n 0, 1) := by decide +kernel
theorem dX10_in_7 : decode cX10_in 7 = .ok (.lload 4, 2) := by decide +kernel
theorem dX10_in_9 : decode cX10_in 9 = .ok (.lcmp, 1) := by decide +kernel
theorem dX10_in_10 : decode cX10_in 10 = .ok (.ifCond .gt 7, 3) := by decide +kernel
theorem dX10_in_13 : decode cX10_in 13 = .ok (.iconst 1, 1) := by decide +kernel
theorem dX10_in_14 : decode cX10_in 14 = .ok (.goto 4, 3) := by decide +kernel
theorem dX10_in_17 : decode cX10_in 17 = .ok (.iconst 0, 1) := by decide +kernel
theorem dX10_in_18 : decode cX10_in 18 = .ok (.ireturn, 1) := by decide +kernel
theorem dX10_bitsOf_0 : decode cX10_bitsOf 0 = .ok (.iconst 0, 1) := by decide +kernel
theorem dX10_bitsOf_1 : decode cX10_bitsOf 1 = .ok (.istore_n 1, 1) := by decide +kernel
theorem dX10_bitsOf_2 : decode cX10_bitsOf 2 = .ok (.iconst 0, 1) := by decide +kernel
theorem dX10_bitsOf_3 : decode cX10_bitsOf 3 = .ok (.istore_n 2, 1) := by decide +kernel
theorem dX10_bitsOf_4 : decode cX10_bitsOf 4 = .ok (.iload_n 2, 1) := by decide +kernel
theorem dX10_bitsOf_5 : decode cX10_bitsOf 5 = .ok (.bipush 16, 2) := by decide +kernel
theorem dX10_bitsOf_7 : decode cX10_bitsOf 7 = .ok (.if_icmp .ge 17, 3) := by decide +kernel
theorem dX10_bitsOf_10 : decode cX10_bitsOf 10 = .ok (.iload_n 1, 1) := by decide +kernel
theorem dX10_bitsOf_11 : decode cX10_bitsOf 11 = .ok (.iload_n 0, 1) := by decide +kernel
theorem dX10_bitsOf_12 : decode cX10_bitsOf 12 = .ok (.iload_n 2, 1) := by decide +kernel
theorem dX10_bitsOf_13 : decode cX10_bitsOf 13 = .ok (.ishr, 1) := by decide +kernel
theorem dX10_bitsOf_14 : decode cX10_bitsOf 14 = .ok (.iconst 1, 1) := by decide +kernel
theorem dX10_bitsOf_15 : decode cX10_bitsOf 15 = .ok (.iand, 1) := by decide +kernel
theorem dX10_bitsOf_16 : decode cX10_bitsOf 16 = .ok (.iadd, 1) := by decide +kernel
theorem dX10_bitsOf_17 : decode cX10_bitsOf 17 = .ok (.istore_n 1, 1) := by decide +kernel
theorem dX10_bitsOf_18 : decode cX10_bitsOf 18 = .ok (.iinc 2 1, 3) := by decide +kernel
theorem dX10_bitsOf_21 : decode cX10_bitsOf 21 = .ok (.goto (-17), 3) := by decide +kernel
theorem dX10_bitsOf_24 : decode cX10_bitsOf 24 = .ok (.iload_n 1, 1) := by decide +kernel
theorem dX10_bitsOf_25 : decode cX10_bitsOf 25 = .ok (.ireturn, 1) := by decide +kernel
theorem dX10_isLayer_0 : decode cX10_isLayer 0 = .ok (.iload_n 0, 1) := by decide +kernel
theorem dX10_isLayer_1 : decode cX10_isLayer 1 = .ok (.i2l, 1) := by decide +kernel
theorem dX10_isLayer_2 : decode cX10_isLayer 2 = .ok (.lconst 0, 1) := by decide +kernel
theorem dX10_isLayer_3 : decode cX10_isLayer 3 = .ok (.ldc2_w 93, 3) := by decide +kernel
theorem dX10_isLayer_6 : decode cX10_isLayer 6 = .ok (.invokestatic 95, 3) := by decide +kernel
theorem dX10_isLayer_9 : decode cX10_isLayer 9 = .ok (.ireturn, 1) := by decide +kernel
theorem dX10_sheet_0 : decode cX10_sheet 0 = .ok (.iload_n 1, 1) := by decide +kernel
theorem dX10_sheet_1 : decode cX10_sheet 1 = .ok (.i2l, 1) := by decide +kernel
theorem dX10_sheet_2 : decode cX10_sheet 2 = .ok (.lconst 0, 1) := by decide +kernel
theorem dX10_sheet_3 : decode cX10_sheet 3 = .ok (.ldc2_w 99, 3) := by decide +kernel
theorem dX10_sheet_6 : decode cX10_sheet 6 = .ok (.invokestatic 95, 3) := by decide +kernel
theorem dX10_sheet_9 : decode cX10_sheet 9 = .ok (.ifCond .eq 15, 3) := by decide +kernel
theorem dX10_sheet_12 : decode cX10_sheet 12 = .ok (.iload_n 2, 1) := by decide +kernel
theorem dX10_sheet_13 : decode cX10_sheet 13 = .ok (.i2l, 1) := by decide +kernel
theorem dX10_sheet_14 : decode cX10_sheet 14 = .ok (.lconst 0, 1) := by decide +kernel
theorem dX10_sheet_15 : decode cX10_sheet 15 = .ok (.ldc2_w 99, 3) := by decide +kernel
theorem dX10_sheet_18 : decode cX10_sheet 18 = .ok (.invokestatic 95, 3) := by decide +kernel
theorem dX10_sheet_21 : decode cX10_sheet 21 = .ok (.ifCond .ne 5, 3) := by decide +kernel
theorem dX10_sheet_24 : decode cX10_sheet 24 = .ok (.iconst (-1), 1) := by decide +kernel
theorem dX10_sheet_25 : decode cX10_sheet 25 = .ok (.ireturn, 1) := by decide +kernel
theorem dX10_sheet_26 : decode cX10_sheet 26 = .ok (.iload_n 3, 1) := by decide +kernel
theorem dX10_sheet_27 : decode cX10_sheet 27 = .ok (.ifCond .ge 6, 3) := by decide +kernel
theorem dX10_sheet_30 : decode cX10_sheet 30 = .ok (.bipush (-4), 2) := by decide +kernel
theorem dX10_sheet_32 : decode cX10_sheet 32 = .ok (.ireturn, 1) := by decide +kernel
theorem dX10_sheet_33 : decode cX10_sheet 33 = .ok (.iload_n 3, 1) := by decide +kernel
theorem dX10_sheet_34 : decode cX10_sheet 34 = .ok (.bipush 20, 2) := by decide +kernel
theorem dX10_sheet_36 : decode cX10_sheet 36 = .ok (.if_icmp .le 5, 3) := by decide +kernel
theorem dX10_sheet_39 : decode cX10_sheet 39 = .ok (.iconst (-1), 1) := by decide +kernel
theorem dX10_sheet_40 : decode cX10_sheet 40 = .ok (.ireturn, 1) := by decide +kernel
theorem dX10_sheet_41 : decode cX10_sheet 41 = .ok (.aload_n 0, 1) := by decide +kernel
theorem dX10_sheet_42 : decode cX10_sheet 42 = .ok (.getfield 9, 3) := by decide +kernel
theorem dX10_sheet_45 : decode cX10_sheet 45 = .ok (.iload_n 1, 1) := by decide +kernel
theorem dX10_sheet_46 : decode cX10_sheet 46 = .ok (.iload_n 2, 1) := by decide +kernel
theorem dX10_sheet_47 : decode cX10_sheet 47 = .ok (.iastore, 1) := by decide +kernel
theorem dX10_sheet_48 : decode cX10_sheet 48 = .ok (.aload_n 0, 1) := by decide +kernel
theorem dX10_sheet_49 : decode cX10_sheet 49 = .ok (.getfield 13, 3) := by decide +kernel
theorem dX10_sheet_52 : decode cX10_sheet 52 = .ok (.iload_n 1, 1) := by decide +kernel
theorem dX10_sheet_53 : decode cX10_sheet 53 = .ok (.iload_n 3, 1) := by decide +kernel
theorem dX10_sheet_54 : decode cX10_sheet 54 = .ok (.iastore, 1) := by decide +kernel
theorem dX10_sheet_55 : decode cX10_sheet 55 = .ok (.iconst 0, 1) := by decide +kernel
theorem dX10_sheet_56 : decode cX10_sheet 56 = .ok (.istore 4, 2) := by decide +kernel
theorem dX10_sheet_58 : decode cX10_sheet 58 = .ok (.iload 4, 2) := by decide +kernel
theorem dX10_sheet_60 : decode cX10_sheet 60 = .ok (.iload_n 3, 1) := by decide +kernel
theorem dX10_sheet_61 : decode cX10_sheet 61 = .ok (.if_icmp .ge 22, 3) := by decide +kernel
theorem dX10_sheet_64 : decode cX10_sheet 64 = .ok (.aload_n 0, 1) := by decide +kernel
theorem dX10_sheet_65 : decode cX10_sheet 65 = .ok (.getfield 16, 3) := by decide +kernel
theorem dX10_sheet_68 : decode cX10_sheet 68 = .ok (.bipush 20, 2) := by decide +kernel
theorem dX10_sheet_70 : decode cX10_sheet 70 = .ok (.iload_n 1, 1) := by decide +kernel
theorem dX10_sheet_71 : decode cX10_sheet 71 = .ok (.imul, 1) := by decide +kernel
theorem dX10_sheet_72 : decode cX10_sheet 72 = .ok (.iload 4, 2) := by decide +kernel
theorem dX10_sheet_74 : decode cX10_sheet 74 = .ok (.iadd, 1) := by decide +kernel
theorem dX10_sheet_75 : decode cX10_sheet 75 = .ok (.iconst 0, 1) := by decide +kernel
theorem dX10_sheet_76 : decode cX10_sheet 76 = .ok (.iastore, 1) := by decide +kernel
theorem dX10_sheet_77 : decode cX10_sheet 77 = .ok (.iinc 4 1, 3) := by decide +kernel
theorem dX10_sheet_80 : decode cX10_sheet 80 = .ok (.goto (-22), 3) := by decide +kernel
theorem dX10_sheet_83 : decode cX10_sheet 83 = .ok (.iconst 1, 1) := by decide +kernel
theorem dX10_sheet_84 : decode cX10_sheet 84 = .ok (.ireturn, 1) := by decide +kernel
theorem dX10_cell_0 : decode cX10_cell 0 = .ok (.iload_n 1, 1) := by decide +kernel
theorem dX10_cell_1 : decode cX10_cell 1 = .ok (.i2l, 1) := by decide +kernel
theorem dX10_cell_2 : decode cX10_cell 2 = .ok (.lconst 0, 1) := by decide +kernel
theorem dX10_cell_3 : decode cX10_cell 3 = .ok (.ldc2_w 99, 3) := by decide +kernel
theorem dX10_cell_6 : decode cX10_cell 6 = .ok (.invokestatic 95, 3) := by decide +kernel
theorem dX10_cell_9 : decode cX10_cell 9 = .ok (.ifCond .ne 5, 3) := by decide +kernel
theorem dX10_cell_12 : decode cX10_cell 12 = .ok (.iconst (-1), 1) := by decide +kernel
theorem dX10_cell_13 : decode cX10_cell 13 = .ok (.ireturn, 1) := by decide +kernel
theorem dX10_cell_14 : decode cX10_cell 14 = .ok (.aload_n 0, 1) := by decide +kernel
theorem dX10_cell_15 : decode cX10_cell 15 = .ok (.getfield 13, 3) := by decide +kernel
theorem dX10_cell_18 : decode cX10_cell 18 = .ok (.iload_n 1, 1) := by decide +kernel
theorem dX10_cell_19 : decode cX10_cell 19 = .ok (.iaload, 1) := by decide +kernel
theorem dX10_cell_20 : decode cX10_cell 20 = .ok (.ifCond .ge 6, 3) := by decide +kernel
theorem dX10_cell_23 : decode cX10_cell 23 = .ok (.bipush (-3), 2) := by decide +kernel
theorem dX10_cell_25 : decode cX10_cell 25 = .ok (.ireturn, 1) := by decide +kernel
theorem dX10_cell_26 : decode cX10_cell 26 = .ok (.iload_n 2, 1) := by decide +kernel
theorem dX10_cell_27 : decode cX10_cell 27 = .ok (.i2l, 1) := by decide +kernel
theorem dX10_cell_28 : decode cX10_cell 28 = .ok (.lconst 0, 1) := by decide +kernel
theorem dX10_cell_29 : decode cX10_cell 29 = .ok (.aload_n 0, 1) := by decide +kernel
theorem dX10_cell_30 : decode cX10_cell 30 = .ok (.getfield 13, 3) := by decide +kernel
theorem dX10_cell_33 : decode cX10_cell 33 = .ok (.iload_n 1, 1) := by decide +kernel
theorem dX10_cell_34 : decode cX10_cell 34 = .ok (.iaload, 1) := by decide +kernel
theorem dX10_cell_35 : decode cX10_cell 35 = .ok (.iconst 1, 1) := by decide +kernel
theorem dX10_cell_36 : decode cX10_cell 36 = .ok (.isub, 1) := by decide +kernel
theorem dX10_cell_37 : decode cX10_cell 37 = .ok (.i2l, 1) := by decide +kernel
theorem dX10_cell_38 : decode cX10_cell 38 = .ok (.invokestatic 95, 3) := by decide +kernel
theorem dX10_cell_41 : decode cX10_cell 41 = .ok (.ifCond .ne 5, 3) := by decide +kernel
theorem dX10_cell_44 : decode cX10_cell 44 = .ok (.iconst (-1), 1) := by decide +kernel
theorem dX10_cell_45 : decode cX10_cell 45 = .ok (.ireturn, 1) := by decide +kernel
theorem dX10_cell_46 : decode cX10_cell 46 = .ok (.aload_n 0, 1) := by decide +kernel
theorem dX10_cell_47 : decode cX10_cell 47 = .ok (.getfield 16, 3) := by decide +kernel
theorem dX10_cell_50 : decode cX10_cell 50 = .ok (.bipush 20, 2) := by decide +kernel
theorem dX10_cell_52 : decode cX10_cell 52 = .ok (.iload_n 1, 1) := by decide +kernel
theorem dX10_cell_53 : decode cX10_cell 53 = .ok (.imul, 1) := by decide +kernel
theorem dX10_cell_54 : decode cX10_cell 54 = .ok (.iload_n 2, 1) := by decide +kernel
theorem dX10_cell_55 : decode cX10_cell 55 = .ok (.iadd, 1) := by decide +kernel
theorem dX10_cell_56 : decode cX10_cell 56 = .ok (.aload_n 0, 1) := by decide +kernel
theorem dX10_cell_57 : decode cX10_cell 57 = .ok (.getfield 9, 3) := by decide +kernel
theorem dX10_cell_60 : decode cX10_cell 60 = .ok (.iload_n 1, 1) := by decide +kernel
theorem dX10_cell_61 : decode cX10_cell 61 = .ok (.iaload, 1) := by decide +kernel
theorem dX10_cell_62 : decode cX10_cell 62 = .ok (.ifCond .ne 8, 3) := by decide +kernel
theorem dX10_cell_65 : decode cX10_cell 65 = .ok (.iload_n 3, 1) := by decide +kernel
theorem dX10_cell_66 : decode cX10_cell 66 = .ok (.i2b, 1) := by decide +kernel
theorem dX10_cell_67 : decode cX10_cell 67 = .ok (.goto 19, 3) := by decide +kernel
theorem dX10_cell_70 : decode cX10_cell 70 = .ok (.aload_n 0, 1) := by decide +kernel
theorem dX10_cell_71 : decode cX10_cell 71 = .ok (.getfield 9, 3) := by decide +kernel
theorem dX10_cell_74 : decode cX10_cell 74 = .ok (.iload_n 1, 1) := by decide +kernel
theorem dX10_cell_75 : decode cX10_cell 75 = .ok (.iaload, 1) := by decide +kernel
theorem dX10_cell_76 : decode cX10_cell 76 = .ok (.iconst 1, 1) := by decide +kernel
theorem dX10_cell_77 : decode cX10_cell 77 = .ok (.if_icmp .ne 8, 3) := by decide +kernel
theorem dX10_cell_80 : decode cX10_cell 80 = .ok (.iload_n 3, 1) := by decide +kernel
theorem dX10_cell_81 : decode cX10_cell 81 = .ok (.i2s, 1) := by decide +kernel
theorem dX10_cell_82 : decode cX10_cell 82 = .ok (.goto 4, 3) := by decide +kernel
theorem dX10_cell_85 : decode cX10_cell 85 = .ok (.iload_n 3, 1) := by decide +kernel
theorem dX10_cell_86 : decode cX10_cell 86 = .ok (.iastore, 1) := by decide +kernel
theorem dX10_cell_87 : decode cX10_cell 87 = .ok (.iconst 1, 1) := by decide +kernel
theorem dX10_cell_88 : decode cX10_cell 88 = .ok (.ireturn, 1) := by decide +kernel
theorem dX10_lose_0 : decode cX10_lose 0 = .ok (.iload_n 1, 1) := by decide +kernel
theorem dX10_lose_1 : decode cX10_lose 1 = .ok (.i2l, 1) := by decide +kernel
theorem dX10_lose_2 : decode cX10_lose 2 = .ok (.lconst 0, 1) := by decide +kernel
theorem dX10_lose_3 : decode cX10_lose 3 = .ok (.ldc2_w 99, 3) := by decide +kernel
theorem dX10_lose_6 : decode cX10_lose 6 = .ok (.invokestatic 95, 3) := by decide +kernel
theorem dX10_lose_9 : decode cX10_lose 9 = .ok (.ifCond .ne 5, 3) := by decide +kernel
theorem dX10_lose_12 : decode cX10_lose 12 = .ok (.iconst (-1), 1) := by decide +kernel
theorem dX10_lose_13 : decode cX10_lose 13 = .ok (.ireturn, 1) := by decide +kernel
theorem dX10_lose_14 : decode cX10_lose 14 = .ok (.aload_n 0, 1) := by decide +kernel
theorem dX10_lose_15 : decode cX10_lose 15 = .ok (.getfield 13, 3) := by decide +kernel
theorem dX10_lose_18 : decode cX10_lose 18 = .ok (.iload_n 1, 1) := by decide +kernel
theorem dX10_lose_19 : decode cX10_lose 19 = .ok (.iaload, 1) := by decide +kernel
theorem dX10_lose_20 : decode cX10_lose 20 = .ok (.ifCond .ge 6, 3) := by decide +kernel
theorem dX10_lose_23 : decode cX10_lose 23 = .ok (.bipush (-3), 2) := by decide +kernel
theorem dX10_lose_25 : decode cX10_lose 25 = .ok (.ireturn, 1) := by decide +kernel
theorem dX10_lose_26 : decode cX10_lose 26 = .ok (.aload_n 0, 1) := by decide +kernel
theorem dX10_lose_27 : decode cX10_lose 27 = .ok (.getfield 13, 3) := by decide +kernel
theorem dX10_lose_30 : decode cX10_lose 30 = .ok (.iload_n 1, 1) := by decide +kernel
theorem dX10_lose_31 : decode cX10_lose 31 = .ok (.iconst (-1), 1) := by decide +kernel
theorem dX10_lose_32 : decode cX10_lose 32 = .ok (.iastore, 1) := by decide +kernel
theorem dX10_lose_33 : decode cX10_lose 33 = .ok (.iconst 1, 1) := by decide +kernel
theorem dX10_lose_34 : decode cX10_lose 34 = .ok (.ireturn, 1) := by decide +kernel
theorem dX10_allHits_0 : decode cX10_allHits 0 = .ok (.iconst 0, 1) := by decide +kernel
theorem dX10_allHits_1 : decode cX10_allHits 1 = .ok (.istore_n 1, 1) := by decide +kernel
theorem dX10_allHits_2 : decode cX10_allHits 2 = .ok (.iconst 0, 1) := by decide +kernel
theorem dX10_allHits_3 : decode cX10_allHits 3 = .ok (.istore_n 2, 1) := by decide +kernel
theorem dX10_allHits_4 : decode cX10_allHits 4 = .ok (.iload_n 2, 1) := by decide +kernel
theorem dX10_allHits_5 : decode cX10_allHits 5 = .ok (.iconst 5, 1) := by decide +kernel
theorem dX10_allHits_6 : decode cX10_allHits 6 = .ok (.if_icmp .ge 21, 3) := by decide +kernel
theorem dX10_allHits_9 : decode cX10_allHits 9 = .ok (.iload_n 1, 1) := by decide +kernel
theorem dX10_allHits_10 : decode cX10_allHits 10 = .ok (.aload_n 0, 1) := by decide +kernel
theorem dX10_allHits_11 : decode cX10_allHits 11 = .ok (.getfield 19, 3) := by decide +kernel
theorem dX10_allHits_14 : decode cX10_allHits 14 = .ok (.iload_n 2, 1) := by decide +kernel
theorem dX10_allHits_15 : decode cX10_allHits 15 = .ok (.iaload, 1) := by decide +kernel
theorem dX10_allHits_16 : decode cX10_allHits 16 = .ok (.invokestatic 101, 3) := by decide +kernel
theorem dX10_allHits_19 : decode cX10_allHits 19 = .ok (.iadd, 1) := by decide +kernel
theorem dX10_allHits_20 : decode cX10_allHits 20 = .ok (.istore_n 1, 1) := by decide +kernel
theorem dX10_allHits_21 : decode cX10_allHits 21 = .ok (.iinc 2 1, 3) := by decide +kernel
theorem dX10_allHits_24 : decode cX10_allHits 24 = .ok (.goto (-20), 3) := by decide +kernel
theorem dX10_allHits_27 : decode cX10_allHits 27 = .ok (.iload_n 1, 1) := by decide +kernel
theorem dX10_allHits_28 : decode cX10_allHits 28 = .ok (.ireturn, 1) := by decide +kernel
theorem dX10_hits_0 : decode cX10_hits 0 = .ok (.iload_n 1, 1) := by decide +kernel
theorem dX10_hits_1 : decode cX10_hits 1 = .ok (.invokestatic 105, 3) := by decide +kernel
theorem dX10_hits_4 : decode cX10_hits 4 = .ok (.ifCond .eq 15, 3) := by decide +kernel
theorem dX10_hits_7 : decode cX10_hits 7 = .ok (.iload_n 2, 1) := by decide +kernel
theorem dX10_hits_8 : decode cX10_hits 8 = .ok (.i2l, 1) := by decide +kernel
theorem dX10_hits_9 : decode cX10_hits 9 = .ok (.lconst 0, 1) := by decide +kernel
theorem dX10_hits_10 : decode cX10_hits 10 = .ok (.ldc2_w 109, 3) := by decide +kernel
theorem dX10_hits_13 : decode cX10_hits 13 = .ok (.invokestatic 95, 3) := by decide +kernel
theorem dX10_hits_16 : decode cX10_hits 16 = .ok (.ifCond .ne 5, 3) := by decide +kernel
theorem dX10_hits_19 : decode cX10_hits 19 = .ok (.iconst (-1), 1) := by decide +kernel
theorem dX10_hits_20 : decode cX10_hits 20 = .ok (.ireturn, 1) := by decide +kernel
theorem dX10_hits_21 : decode cX10_hits 21 = .ok (.aload_n 0, 1) := by decide +kernel
theorem dX10_hits_22 : decode cX10_hits 22 = .ok (.getfield 19, 3) := by decide +kernel
theorem dX10_hits_25 : decode cX10_hits 25 = .ok (.iload_n 1, 1) := by decide +kernel
theorem dX10_hits_26 : decode cX10_hits 26 = .ok (.iload_n 2, 1) := by decide +kernel
theorem dX10_hits_27 : decode cX10_hits 27 = .ok (.iastore, 1) := by decide +kernel
theorem dX10_hits_28 : decode cX10_hits 28 = .ok (.iload_n 2, 1) := by decide +kernel
theorem dX10_hits_29 : decode cX10_hits 29 = .ok (.invokestatic 101, 3) := by decide +kernel
theorem dX10_hits_32 : decode cX10_hits 32 = .ok (.ireturn, 1) := by decide +kernel
theorem dX10_load_0 : decode cX10_load 0 = .ok (.iload_n 1, 1) := by decide +kernel
theorem dX10_load_1 : decode cX10_load 1 = .ok (.i2l, 1) := by decide +kernel
theorem dX10_load_2 : decode cX10_load 2 = .ok (.lconst 0, 1) := by decide +kernel
theorem dX10_load_3 : decode cX10_load 3 = .ok (.ldc2_w 99, 3) := by decide +kernel
theorem dX10_load_6 : decode cX10_load 6 = .ok (.invokestatic 95, 3) := by decide +kernel
theorem dX10_load_9 : decode cX10_load 9 = .ok (.ifCond .eq 7, 3) := by decide +kernel
theorem dX10_load_12 : decode cX10_load 12 = .ok (.iload_n 2, 1) := by decide +kernel
theorem dX10_load_13 : decode cX10_load 13 = .ok (.ifCond .ge 5, 3) := by decide +kernel
theorem dX10_load_16 : decode cX10_load 16 = .ok (.iconst (-1), 1) := by decide +kernel
theorem dX10_load_17 : decode cX10_load 17 = .ok (.ireturn, 1) := by decide +kernel
theorem dX10_load_18 : decode cX10_load 18 = .ok (.aload_n 0, 1) := by decide +kernel
theorem dX10_load_19 : decode cX10_load 19 = .ok (.getfield 13, 3) := by decide +kernel
theorem dX10_load_22 : decode cX10_load 22 = .ok (.iload_n 1, 1) := by decide +kernel
theorem dX10_load_23 : decode cX10_load 23 = .ok (.iaload, 1) := by decide +kernel
theorem dX10_load_24 : decode cX10_load 24 = .ok (.ifCond .ge 6, 3) := by decide +kernel
theorem dX10_load_27 : decode cX10_load 27 = .ok (.bipush (-3), 2) := by decide +kernel
theorem dX10_load_29 : decode cX10_load 29 = .ok (.ireturn, 1) := by decide +kernel
theorem dX10_load_30 : decode cX10_load 30 = .ok (.iconst 0, 1) := by decide +kernel
theorem dX10_load_31 : decode cX10_load 31 = .ok (.istore_n 3, 1) := by decide +kernel
theorem dX10_load_32 : decode cX10_load 32 = .ok (.iload_n 3, 1) := by decide +kernel
theorem dX10_load_33 : decode cX10_load 33 = .ok (.iconst 5, 1) := by decide +kernel
theorem dX10_load_34 : decode cX10_load 34 = .ok (.if_icmp .ge 51, 3) := by decide +kernel
theorem dX10_load_37 : decode cX10_load 37 = .ok (.aload_n 0, 1) := by decide +kernel
theorem dX10_load_38 : decode cX10_load 38 = .ok (.getfield 19, 3) := by decide +kernel
theorem dX10_load_41 : decode cX10_load 41 = .ok (.iload_n 3, 1) := by decide +kernel
theorem dX10_load_42 : decode cX10_load 42 = .ok (.iload_n 2, 1) := by decide +kernel
theorem dX10_load_43 : decode cX10_load 43 = .ok (.i2l, 1) := by decide +kernel
theorem dX10_load_44 : decode cX10_load 44 = .ok (.iload_n 3, 1) := by decide +kernel
theorem dX10_load_45 : decode cX10_load 45 = .ok (.i2l, 1) := by decide +kernel
theorem dX10_load_46 : decode cX10_load 46 = .ok (.ladd, 1) := by decide +kernel
theorem dX10_load_47 : decode cX10_load 47 = .ok (.aload_n 0, 1) := by decide +kernel
theorem dX10_load_48 : decode cX10_load 48 = .ok (.getfield 13, 3) := by decide +kernel
theorem dX10_load_51 : decode cX10_load 51 = .ok (.iload_n 1, 1) := by decide +kernel
theorem dX10_load_52 : decode cX10_load 52 = .ok (.iaload, 1) := by decide +kernel
theorem dX10_load_53 : decode cX10_load 53 = .ok (.i2l, 1) := by decide +kernel
theorem dX10_load_54 : decode cX10_load 54 = .ok (.lcmp, 1) := by decide +kernel
theorem dX10_load_55 : decode cX10_load 55 = .ok (.ifCond .ge 22, 3) := by decide +kernel
theorem dX10_load_58 : decode cX10_load 58 = .ok (.aload_n 0, 1) := by decide +kernel
theorem dX10_load_59 : decode cX10_load 59 = .ok (.getfield 16, 3) := by decide +kernel
theorem dX10_load_62 : decode cX10_load 62 = .ok (.bipush 20, 2) := by decide +kernel
theorem dX10_load_64 : decode cX10_load 64 = .ok (.iload_n 1, 1) := by decide +kernel
theorem dX10_load_65 : decode cX10_load 65 = .ok (.imul, 1) := by decide +kernel
theorem dX10_load_66 : decode cX10_load 66 = .ok (.iload_n 2, 1) := by decide +kernel
theorem dX10_load_67 : decode cX10_load 67 = .ok (.iadd, 1) := by decide +kernel
theorem dX10_load_68 : decode cX10_load 68 = .ok (.iload_n 3, 1) := by decide +kernel
theorem dX10_load_69 : decode cX10_load 69 = .ok (.iadd, 1) := by decide +kernel
theorem dX10_load_70 : decode cX10_load 70 = .ok (.iaload, 1) := by decide +kernel
theorem dX10_load_71 : decode cX10_load 71 = .ok (.ldc 111, 2) := by decide +kernel
theorem dX10_load_73 : decode cX10_load 73 = .ok (.iand, 1) := by decide +kernel
theorem dX10_load_74 : decode cX10_load 74 = .ok (.goto 4, 3) := by decide +kernel
theorem dX10_load_77 : decode cX10_load 77 = .ok (.iconst 0, 1) := by decide +kernel
theorem dX10_load_78 : decode cX10_load 78 = .ok (.iastore, 1) := by decide +kernel
theorem dX10_load_79 : decode cX10_load 79 = .ok (.iinc 3 1, 3) := by decide +kernel
theorem dX10_load_82 : decode cX10_load 82 = .ok (.goto (-50), 3) := by decide +kernel
theorem dX10_load_85 : decode cX10_load 85 = .ok (.aload_n 0, 1) := by decide +kernel
theorem dX10_load_86 : decode cX10_load 86 = .ok (.invokevirtual 112, 3) := by decide +kernel
theorem dX10_load_89 : decode cX10_load 89 = .ok (.ireturn, 1) := by decide +kernel
theorem dX10_mask_0 : decode cX10_mask 0 = .ok (.iload_n 1, 1) := by decide +kernel
theorem dX10_mask_1 : decode cX10_mask 1 = .ok (.invokestatic 105, 3) := by decide +kernel
theorem dX10_mask_4 : decode cX10_mask 4 = .ok (.ifCond .eq 25, 3) := by decide +kernel
theorem dX10_mask_7 : decode cX10_mask 7 = .ok (.iload_n 2, 1) := by decide +kernel
theorem dX10_mask_8 : decode cX10_mask 8 = .ok (.i2l, 1) := by decide +kernel
theorem dX10_mask_9 : decode cX10_mask 9 = .ok (.lconst 0, 1) := by decide +kernel
theorem dX10_mask_10 : decode cX10_mask 10 = .ok (.lconst 1, 1) := by decide +kernel
theorem dX10_mask_11 : decode cX10_mask 11 = .ok (.invokestatic 95, 3) := by decide +kernel
theorem dX10_mask_14 : decode cX10_mask 14 = .ok (.ifCond .eq 15, 3) := by decide +kernel
theorem dX10_mask_17 : decode cX10_mask 17 = .ok (.iload_n 3, 1) := by decide +kernel
theorem dX10_mask_18 : decode cX10_mask 18 = .ok (.i2l, 1) := by decide +kernel
theorem dX10_mask_19 : decode cX10_mask 19 = .ok (.lconst 0, 1) := by decide +kernel
theorem dX10_mask_20 : decode cX10_mask 20 = .ok (.ldc2_w 109, 3) := by decide +kernel
theorem dX10_mask_23 : decode cX10_mask 23 = .ok (.invokestatic 95, 3) := by decide +kernel
theorem dX10_mask_26 : decode cX10_mask 26 = .ok (.ifCond .ne 5, 3) := by decide +kernel
theorem dX10_mask_29 : decode cX10_mask 29 = .ok (.iconst (-1), 1) := by decide +kernel
theorem dX10_mask_30 : decode cX10_mask 30 = .ok (.ireturn, 1) := by decide +kernel
theorem dX10_mask_31 : decode cX10_mask 31 = .ok (.iload_n 2, 1) := by decide +kernel
theorem dX10_mask_32 : decode cX10_mask 32 = .ok (.ifCond .ne 12, 3) := by decide +kernel
theorem dX10_mask_35 : decode cX10_mask 35 = .ok (.aload_n 0, 1) := by decide +kernel
theorem dX10_mask_36 : decode cX10_mask 36 = .ok (.getfield 22, 3) := by decide +kernel
theorem dX10_mask_39 : decode cX10_mask 39 = .ok (.iload_n 1, 1) := by decide +kernel
theorem dX10_mask_40 : decode cX10_mask 40 = .ok (.iaload, 1) := by decide +kernel
theorem dX10_mask_41 : decode cX10_mask 41 = .ok (.goto 9, 3) := by decide +kernel
theorem dX10_mask_44 : decode cX10_mask 44 = .ok (.aload_n 0, 1) := by decide +kernel
theorem dX10_mask_45 : decode cX10_mask 45 = .ok (.getfield 25, 3) := by decide +kernel
theorem dX10_mask_48 : decode cX10_mask 48 = .ok (.iload_n 1, 1) := by decide +kernel
theorem dX10_mask_49 : decode cX10_mask 49 = .ok (.iaload, 1) := by decide +kernel
theorem dX10_mask_50 : decode cX10_mask 50 = .ok (.istore 4, 2) := by decide +kernel
theorem dX10_mask_52 : decode cX10_mask 52 = .ok (.iload_n 2, 1) := by decide +kernel
theorem dX10_mask_53 : decode cX10_mask 53 = .ok (.ifCond .ne 13, 3) := by decide +kernel
theorem dX10_mask_56 : decode cX10_mask 56 = .ok (.aload_n 0, 1) := by decide +kernel
theorem dX10_mask_57 : decode cX10_mask 57 = .ok (.getfield 22, 3) := by decide +kernel
theorem dX10_mask_60 : decode cX10_mask 60 = .ok (.iload_n 1, 1) := by decide +kernel
theorem dX10_mask_61 : decode cX10_mask 61 = .ok (.iload_n 3, 1) := by decide +kernel
theorem dX10_mask_62 : decode cX10_mask 62 = .ok (.iastore, 1) := by decide +kernel
theorem dX10_mask_63 : decode cX10_mask 63 = .ok (.goto 10, 3) := by decide +kernel
theorem dX10_mask_66 : decode cX10_mask 66 = .ok (.aload_n 0, 1) := by decide +kernel
theorem dX10_mask_67 : decode cX10_mask 67 = .ok (.getfield 25, 3) := by decide +kernel
theorem dX10_mask_70 : decode cX10_mask 70 = .ok (.iload_n 1, 1) := by decide +kernel
theorem dX10_mask_71 : decode cX10_mask 71 = .ok (.iload_n 3, 1) := by decide +kernel
theorem dX10_mask_72 : decode cX10_mask 72 = .ok (.iastore, 1) := by decide +kernel
theorem dX10_mask_73 : decode cX10_mask 73 = .ok (.iload 4, 2) := by decide +kernel
theorem dX10_mask_75 : decode cX10_mask 75 = .ok (.ireturn, 1) := by decide +kernel
theorem dX10_seen_0 : decode cX10_seen 0 = .ok (.aload_n 0, 1) := by decide +kernel
theorem dX10_seen_1 : decode cX10_seen 1 = .ok (.getfield 19, 3) := by decide +kernel
theorem dX10_seen_4 : decode cX10_seen 4 = .ok (.iload_n 1, 1) := by decide +kernel
theorem dX10_seen_5 : decode cX10_seen 5 = .ok (.iaload, 1) := by decide +kernel
theorem dX10_seen_6 : decode cX10_seen 6 = .ok (.aload_n 0, 1) := by decide +kernel
theorem dX10_seen_7 : decode cX10_seen 7 = .ok (.getfield 22, 3) := by decide +kernel
theorem dX10_seen_10 : decode cX10_seen 10 = .ok (.iload_n 1, 1) := by decide +kernel
theorem dX10_seen_11 : decode cX10_seen 11 = .ok (.iaload, 1) := by decide +kernel
theorem dX10_seen_12 : decode cX10_seen 12 = .ok (.iconst (-1), 1) := by decide +kernel
theorem dX10_seen_13 : decode cX10_seen 13 = .ok (.ixor, 1) := by decide +kernel
theorem dX10_seen_14 : decode cX10_seen 14 = .ok (.iand, 1) := by decide +kernel
theorem dX10_seen_15 : decode cX10_seen 15 = .ok (.aload_n 0, 1) := by decide +kernel
theorem dX10_seen_16 : decode cX10_seen 16 = .ok (.getfield 25, 3) := by decide +kernel
theorem dX10_seen_19 : decode cX10_seen 19 = .ok (.iload_n 1, 1) := by decide +kernel
theorem dX10_seen_20 : decode cX10_seen 20 = .ok (.iaload, 1) := by decide +kernel
theorem dX10_seen_21 : decode cX10_seen 21 = .ok (.iconst (-1), 1) := by decide +kernel
theorem dX10_seen_22 : decode cX10_seen 22 = .ok (.ixor, 1) := by decide +kernel
theorem dX10_seen_23 : decode cX10_seen 23 = .ok (.iand, 1) := by decide +kernel
theorem dX10_seen_24 : decode cX10_seen 24 = .ok (.ireturn, 1) := by decide +kernel
theorem dX10_layer_0 : decode cX10_layer 0 = .ok (.iload_n 1, 1) := by decide +kernel
theorem dX10_layer_1 : decode cX10_layer 1 = .ok (.invokestatic 105, 3) := by decide +kernel
theorem dX10_layer_4 : decode cX10_layer 4 = .ok (.ifCond .ne 5, 3) := by decide +kernel
theorem dX10_layer_7 : decode cX10_layer 7 = .ok (.iconst (-1), 1) := by decide +kernel
theorem dX10_layer_8 : decode cX10_layer 8 = .ok (.ireturn, 1) := by decide +kernel
theorem dX10_layer_9 : decode cX10_layer 9 = .ok (.iload_n 2, 1) := by decide +kernel
theorem dX10_layer_10 : decode cX10_layer 10 = .ok (.tableswitch 57 0 3 #[30, 37, 43, 50], 30) := by decide +kernel
theorem dX10_layer_40 : decode cX10_layer 40 = .ok (.aload_n 0, 1) := by decide +kernel
theorem dX10_layer_41 : decode cX10_layer 41 = .ok (.getfield 19, 3) := by decide +kernel
theorem dX10_layer_44 : decode cX10_layer 44 = .ok (.iload_n 1, 1) := by decide +kernel
theorem dX10_layer_45 : decode cX10_layer 45 = .ok (.iaload, 1) := by decide +kernel
theorem dX10_layer_46 : decode cX10_layer 46 = .ok (.ireturn, 1) := by decide +kernel
theorem dX10_layer_47 : decode cX10_layer 47 = .ok (.aload_n 0, 1) := by decide +kernel
theorem dX10_layer_48 : decode cX10_layer 48 = .ok (.iload_n 1, 1) := by decide +kernel
theorem dX10_layer_49 : decode cX10_layer 49 = .ok (.invokevirtual 116, 3) := by decide +kernel
theorem dX10_layer_52 : decode cX10_layer 52 = .ok (.ireturn, 1) := by decide +kernel
theorem dX10_layer_53 : decode cX10_layer 53 = .ok (.aload_n 0, 1) := by decide +kernel
theorem dX10_layer_54 : decode cX10_layer 54 = .ok (.getfield 22, 3) := by decide +kernel
theorem dX10_layer_57 : decode cX10_layer 57 = .ok (.iload_n 1, 1) := by decide +kernel
theorem dX10_layer_58 : decode cX10_layer 58 = .ok (.iaload, 1) := by decide +kernel
theorem dX10_layer_59 : decode cX10_layer 59 = .ok (.ireturn, 1) := by decide +kernel
theorem dX10_layer_60 : decode cX10_layer 60 = .ok (.aload_n 0, 1) := by decide +kernel
theorem dX10_layer_61 : decode cX10_layer 61 = .ok (.getfield 25, 3) := by decide +kernel
theorem dX10_layer_64 : decode cX10_layer 64 = .ok (.iload_n 1, 1) := by decide +kernel
theorem dX10_layer_65 : decode cX10_layer 65 = .ok (.iaload, 1) := by decide +kernel
theorem dX10_layer_66 : decode cX10_layer 66 = .ok (.ireturn, 1) := by decide +kernel
theorem dX10_layer_67 : decode cX10_layer 67 = .ok (.iconst (-1), 1) := by decide +kernel
theorem dX10_layer_68 : decode cX10_layer 68 = .ok (.ireturn, 1) := by decide +kernel
theorem dX10_isSpan_0 : decode cX10_isSpan 0 = .ok (.iload_n 0, 1) := by decide +kernel
theorem dX10_isSpan_1 : decode cX10_isSpan 1 = .ok (.ifCond .lt 40, 3) := by decide +kernel
theorem dX10_isSpan_4 : decode cX10_isSpan 4 = .ok (.iload_n 0, 1) := by decide +kernel
theorem dX10_isSpan_5 : decode cX10_isSpan 5 = .ok (.bipush 100, 2) := by decide +kernel
theorem dX10_isSpan_7 : decode cX10_isSpan 7 = .ok (.idiv, 1) := by decide +kernel
theorem dX10_isSpan_8 : decode cX10_isSpan 8 = .ok (.iload_n 0, 1) := by decide +kernel
theorem dX10_isSpan_9 : decode cX10_isSpan 9 = .ok (.bipush 100, 2) := by decide +kernel
theorem dX10_isSpan_11 : decode cX10_isSpan 11 = .ok (.irem, 1) := by decide +kernel
theorem dX10_isSpan_12 : decode cX10_isSpan 12 = .ok (.if_icmp .gt 29, 3) := by decide +kernel
theorem dX10_isSpan_15 : decode cX10_isSpan 15 = .ok (.iload_n 0, 1) := by decide +kernel
theorem dX10_isSpan_16 : decode cX10_isSpan 16 = .ok (.bipush 100, 2) := by decide +kernel
theorem dX10_isSpan_18 : decode cX10_isSpan 18 = .ok (.irem, 1) := by decide +kernel
theorem dX10_isSpan_19 : decode cX10_isSpan 19 = .ok (.bipush 16, 2) := by decide +kernel
theorem dX10_isSpan_21 : decode cX10_isSpan 21 = .ok (.if_icmp .ge 20, 3) := by decide +kernel
theorem dX10_isSpan_24 : decode cX10_isSpan 24 = .ok (.iload_n 0, 1) := by decide +kernel
theorem dX10_isSpan_25 : decode cX10_isSpan 25 = .ok (.bipush 100, 2) := by decide +kernel
theorem dX10_isSpan_27 : decode cX10_isSpan 27 = .ok (.irem, 1) := by decide +kernel
theorem dX10_isSpan_28 : decode cX10_isSpan 28 = .ok (.iload_n 0, 1) := by decide +kernel
theorem dX10_isSpan_29 : decode cX10_isSpan 29 = .ok (.bipush 100, 2) := by decide +kernel
theorem dX10_isSpan_31 : decode cX10_isSpan 31 = .ok (.idiv, 1) := by decide +kernel
theorem dX10_isSpan_32 : decode cX10_isSpan 32 = .ok (.isub, 1) := by decide +kernel
theorem dX10_isSpan_33 : decode cX10_isSpan 33 = .ok (.iconst 3, 1) := by decide +kernel
theorem dX10_isSpan_34 : decode cX10_isSpan 34 = .ok (.if_icmp .gt 7, 3) := by decide +kernel
theorem dX10_isSpan_37 : decode cX10_isSpan 37 = .ok (.iconst 1, 1) := by decide +kernel
theorem dX10_isSpan_38 : decode cX10_isSpan 38 = .ok (.goto 4, 3) := by decide +kernel
theorem dX10_isSpan_41 : decode cX10_isSpan 41 = .ok (.iconst 0, 1) := by decide +kernel
theorem dX10_isSpan_42 : decode cX10_isSpan 42 = .ok (.ireturn, 1) := by decide +kernel
theorem dX10_road_0 : decode cX10_road 0 = .ok (.aload_n 0, 1) := by decide +kernel
theorem dX10_road_1 : decode cX10_road 1 = .ok (.getfield 72, 3) := by decide +kernel
theorem dX10_road_4 : decode cX10_road 4 = .ok (.iconst 0, 1) := by decide +kernel
theorem dX10_road_5 : decode cX10_road 5 = .ok (.iload_n 1, 1) := by decide +kernel
theorem dX10_road_6 : decode cX10_road 6 = .ok (.iastore, 1) := by decide +kernel
theorem dX10_road_7 : decode cX10_road 7 = .ok (.aload_n 0, 1) := by decide +kernel
theorem dX10_road_8 : decode cX10_road 8 = .ok (.getfield 72, 3) := by decide +kernel
theorem dX10_road_11 : decode cX10_road 11 = .ok (.iconst 1, 1) := by decide +kernel
theorem dX10_road_12 : decode cX10_road 12 = .ok (.iload_n 2, 1) := by decide +kernel
theorem dX10_road_13 : decode cX10_road 13 = .ok (.iastore, 1) := by decide +kernel
theorem dX10_road_14 : decode cX10_road 14 = .ok (.aload_n 0, 1) := by decide +kernel
theorem dX10_road_15 : decode cX10_road 15 = .ok (.getfield 72, 3) := by decide +kernel
theorem dX10_road_18 : decode cX10_road 18 = .ok (.iconst 2, 1) := by decide +kernel
theorem dX10_road_19 : decode cX10_road 19 = .ok (.iload_n 3, 1) := by decide +kernel
theorem dX10_road_20 : decode cX10_road 20 = .ok (.iastore, 1) := by decide +kernel
theorem dX10_road_21 : decode cX10_road 21 = .ok (.aload_n 0, 1) := by decide +kernel
theorem dX10_road_22 : decode cX10_road 22 = .ok (.getfield 72, 3) := by decide +kernel
theorem dX10_road_25 : decode cX10_road 25 = .ok (.iconst 3, 1) := by decide +kernel
theorem dX10_road_26 : decode cX10_road 26 = .ok (.iload 4, 2) := by decide +kernel
theorem dX10_road_28 : decode cX10_road 28 = .ok (.iastore, 1) := by decide +kernel
theorem dX10_road_29 : decode cX10_road 29 = .ok (.aload_n 0, 1) := by decide +kernel
theorem dX10_road_30 : decode cX10_road 30 = .ok (.getfield 72, 3) := by decide +kernel
theorem dX10_road_33 : decode cX10_road 33 = .ok (.iconst 4, 1) := by decide +kernel
theorem dX10_road_34 : decode cX10_road 34 = .ok (.iload 5, 2) := by decide +kernel
theorem dX10_road_36 : decode cX10_road 36 = .ok (.iastore, 1) := by decide +kernel
theorem dX10_road_37 : decode cX10_road 37 = .ok (.iconst 0, 1) := by decide +kernel
theorem dX10_road_38 : decode cX10_road 38 = .ok (.istore 7, 2) := by decide +kernel
theorem dX10_road_40 : decode cX10_road 40 = .ok (.iload 7, 2) := by decide +kernel
theorem dX10_road_42 : decode cX10_road 42 = .ok (.iconst 5, 1) := by decide +kernel
theorem dX10_road_43 : decode cX10_road 43 = .ok (.if_icmp .ge 24, 3) := by decide +kernel
theorem dX10_road_46 : decode cX10_road 46 = .ok (.aload_n 0, 1) := by decide +kernel
theorem dX10_road_47 : decode cX10_road 47 = .ok (.getfield 72, 3) := by decide +kernel
theorem dX10_road_50 : decode cX10_road 50 = .ok (.iload 7, 2) := by decide +kernel
theorem dX10_road_52 : decode cX10_road 52 = .ok (.iaload, 1) := by decide +kernel
theorem dX10_road_53 : decode cX10_road 53 = .ok (.invokestatic 119, 3) := by decide +kernel
theorem dX10_road_56 : decode cX10_road 56 = .ok (.ifCond .ne 5, 3) := by decide +kernel
theorem dX10_road_59 : decode cX10_road 59 = .ok (.iconst (-1), 1) := by decide +kernel
theorem dX10_road_60 : decode cX10_road 60 = .ok (.ireturn, 1) := by decide +kernel
theorem dX10_road_61 : decode cX10_road 61 = .ok (.iinc 7 1, 3) := by decide +kernel
theorem dX10_road_64 : decode cX10_road 64 = .ok (.goto (-24), 3) := by decide +kernel
theorem dX10_road_67 : decode cX10_road 67 = .ok (.iload 6, 2) := by decide +kernel
theorem dX10_road_69 : decode cX10_road 69 = .ok (.i2l, 1) := by decide +kernel
theorem dX10_road_70 : decode cX10_road 70 = .ok (.lconst 1, 1) := by decide +kernel
theorem dX10_road_71 : decode cX10_road 71 = .ok (.ldc2_w 122, 3) := by decide +kernel
theorem dX10_road_74 : decode cX10_road 74 = .ok (.invokestatic 95, 3) := by decide +kernel
theorem dX10_road_77 : decode cX10_road 77 = .ok (.ifCond .ne 5, 3) := by decide +kernel
theorem dX10_road_80 : decode cX10_road 80 = .ok (.iconst (-1), 1) := by decide +kernel
theorem dX10_road_81 : decode cX10_road 81 = .ok (.ireturn, 1) := by decide +kernel
theorem dX10_road_82 : decode cX10_road 82 = .ok (.aload_n 0, 1) := by decide +kernel
theorem dX10_road_83 : decode cX10_road 83 = .ok (.getfield 124, 3) := by decide +kernel
theorem dX10_road_86 : decode cX10_road 86 = .ok (.bipush 12, 2) := by decide +kernel
theorem dX10_road_88 : decode cX10_road 88 = .ok (.if_icmp .ne 6, 3) := by decide +kernel
theorem dX10_road_91 : decode cX10_road 91 = .ok (.bipush (-2), 2) := by decide +kernel
theorem dX10_road_93 : decode cX10_road 93 = .ok (.ireturn, 1) := by decide +kernel
theorem dX10_road_94 : decode cX10_road 94 = .ok (.iconst 0, 1) := by decide +kernel
theorem dX10_road_95 : decode cX10_road 95 = .ok (.istore 7, 2) := by decide +kernel
theorem dX10_road_97 : decode cX10_road 97 = .ok (.iload 7, 2) := by decide +kernel
theorem dX10_road_99 : decode cX10_road 99 = .ok (.iconst 5, 1) := by decide +kernel
theorem dX10_road_100 : decode cX10_road 100 = .ok (.if_icmp .ge 30, 3) := by decide +kernel
theorem dX10_road_103 : decode cX10_road 103 = .ok (.aload_n 0, 1) := by decide +kernel
theorem dX10_road_104 : decode cX10_road 104 = .ok (.getfield 28, 3) := by decide +kernel
theorem dX10_road_107 : decode cX10_road 107 = .ok (.iconst 5, 1) := by decide +kernel
theorem dX10_road_108 : decode cX10_road 108 = .ok (.aload_n 0, 1) := by decide +kernel
theorem dX10_road_109 : decode cX10_road 109 = .ok (.getfield 124, 3) := by decide +kernel
theorem dX10_road_112 : decode cX10_road 112 = .ok (.imul, 1) := by decide +kernel
theorem dX10_road_113 : decode cX10_road 113 = .ok (.iload 7, 2) := by decide +kernel
theorem dX10_road_115 : decode cX10_road 115 = .ok (.iadd, 1) := by decide +kernel
theorem dX10_road_116 : decode cX10_road 116 = .ok (.aload_n 0, 1) := by decide +kernel
theorem dX10_road_117 : decode cX10_road 117 = .ok (.getfield 72, 3) := by decide +kernel
theorem dX10_road_120 : decode cX10_road 120 = .ok (.iload 7, 2) := by decide +kernel
theorem dX10_road_122 : decode cX10_road 122 = .ok (.iaload, 1) := by decide +kernel
theorem dX10_road_123 : decode cX10_road 123 = .ok (.iastore, 1) := by decide +kernel
theorem dX10_road_124 : decode cX10_road 124 = .ok (.iinc 7 1, 3) := by decide +kernel
theorem dX10_road_127 : decode cX10_road 127 = .ok (.goto (-30), 3) := by decide +kernel
theorem dX10_road_130 : decode cX10_road 130 = .ok (.aload_n 0, 1) := by decide +kernel
theorem dX10_road_131 : decode cX10_road 131 = .ok (.getfield 31, 3) := by decide +kernel
theorem dX10_road_134 : decode cX10_road 134 = .ok (.aload_n 0, 1) := by decide +kernel
theorem dX10_road_135 : decode cX10_road 135 = .ok (.getfield 124, 3) := by decide +kernel
theorem dX10_road_138 : decode cX10_road 138 = .ok (.iload 6, 2) := by decide +kernel
theorem dX10_road_140 : decode cX10_road 140 = .ok (.iastore, 1) := by decide +kernel
theorem dX10_road_141 : decode cX10_road 141 = .ok (.aload_n 0, 1) := by decide +kernel
theorem dX10_road_142 : decode cX10_road 142 = .ok (.dup, 1) := by decide +kernel
theorem dX10_road_143 : decode cX10_road 143 = .ok (.getfield 124, 3) := by decide +kernel
theorem dX10_road_146 : decode cX10_road 146 = .ok (.iconst 1, 1) := by decide +kernel
theorem dX10_road_147 : decode cX10_road 147 = .ok (.iadd, 1) := by decide +kernel
theorem dX10_road_148 : decode cX10_road 148 = .ok (.putfield 124, 3) := by decide +kernel
theorem dX10_road_151 : decode cX10_road 151 = .ok (.aload_n 0, 1) := by decide +kernel
theorem dX10_road_152 : decode cX10_road 152 = .ok (.getfield 124, 3) := by decide +kernel
theorem dX10_road_155 : decode cX10_road 155 = .ok (.iconst 1, 1) := by decide +kernel
theorem dX10_road_156 : decode cX10_road 156 = .ok (.isub, 1) := by decide +kernel
theorem dX10_road_157 : decode cX10_road 157 = .ok (.ireturn, 1) := by decide +kernel
theorem dX10_isRoad_0 : decode cX10_isRoad 0 = .ok (.iload_n 1, 1) := by decide +kernel
theorem dX10_isRoad_1 : decode cX10_isRoad 1 = .ok (.i2l, 1) := by decide +kernel
theorem dX10_isRoad_2 : decode cX10_isRoad 2 = .ok (.lconst 0, 1) := by decide +kernel
theorem dX10_isRoad_3 : decode cX10_isRoad 3 = .ok (.aload_n 0, 1) := by decide +kernel
theorem dX10_isRoad_4 : decode cX10_isRoad 4 = .ok (.getfield 124, 3) := by decide +kernel
theorem dX10_isRoad_7 : decode cX10_isRoad 7 = .ok (.iconst 1, 1) := by decide +kernel
theorem dX10_isRoad_8 : decode cX10_isRoad 8 = .ok (.isub, 1) := by decide +kernel
theorem dX10_isRoad_9 : decode cX10_isRoad 9 = .ok (.i2l, 1) := by decide +kernel
theorem dX10_isRoad_10 : decode cX10_isRoad 10 = .ok (.invokestatic 95, 3) := by decide +kernel
theorem dX10_isRoad_13 : decode cX10_isRoad 13 = .ok (.ireturn, 1) := by decide +kernel
theorem dX10_span_0 : decode cX10_span 0 = .ok (.aload_n 0, 1) := by decide +kernel
theorem dX10_span_1 : decode cX10_span 1 = .ok (.iload_n 1, 1) := by decide +kernel
theorem dX10_span_2 : decode cX10_span 2 = .ok (.invokevirtual 128, 3) := by decide +kernel
theorem dX10_span_5 : decode cX10_span 5 = .ok (.ifCond .eq 17, 3) := by decide +kernel
theorem dX10_span_8 : decode cX10_span 8 = .ok (.iload_n 2, 1) := by decide +kernel
theorem dX10_span_9 : decode cX10_span 9 = .ok (.invokestatic 105, 3) := by decide +kernel
theorem dX10_span_12 : decode cX10_span 12 = .ok (.ifCond .eq 10, 3) := by decide +kernel
theorem dX10_span_15 : decode cX10_span 15 = .ok (.iload_n 3, 1) := by decide +kernel
theorem dX10_span_16 : decode cX10_span 16 = .ok (.invokestatic 119, 3) := by decide +kernel
theorem dX10_span_19 : decode cX10_span 19 = .ok (.ifCond .ne 5, 3) := by decide +kernel
theorem dX10_span_22 : decode cX10_span 22 = .ok (.iconst (-1), 1) := by decide +kernel
theorem dX10_span_23 : decode cX10_span 23 = .ok (.ireturn, 1) := by decide +kernel
theorem dX10_span_24 : decode cX10_span 24 = .ok (.aload_n 0, 1) := by decide +kernel
theorem dX10_span_25 : decode cX10_span 25 = .ok (.getfield 28, 3) := by decide +kernel
theorem dX10_span_28 : decode cX10_span 28 = .ok (.iconst 5, 1) := by decide +kernel
theorem dX10_span_29 : decode cX10_span 29 = .ok (.iload_n 1, 1) := by decide +kernel
theorem dX10_span_30 : decode cX10_span 30 = .ok (.imul, 1) := by decide +kernel
theorem dX10_span_31 : decode cX10_span 31 = .ok (.iload_n 2, 1) := by decide +kernel
theorem dX10_span_32 : decode cX10_span 32 = .ok (.iadd, 1) := by decide +kernel
theorem dX10_span_33 : decode cX10_span 33 = .ok (.iaload, 1) := by decide +kernel
theorem dX10_span_34 : decode cX10_span 34 = .ok (.istore 4, 2) := by decide +kernel
theorem dX10_span_36 : decode cX10_span 36 = .ok (.aload_n 0, 1) := by decide +kernel
theorem dX10_span_37 : decode cX10_span 37 = .ok (.getfield 28, 3) := by decide +kernel
theorem dX10_span_40 : decode cX10_span 40 = .ok (.iconst 5, 1) := by decide +kernel
theorem dX10_span_41 : decode cX10_span 41 = .ok (.iload_n 1, 1) := by decide +kernel
theorem dX10_span_42 : decode cX10_span 42 = .ok (.imul, 1) := by decide +kernel
theorem dX10_span_43 : decode cX10_span 43 = .ok (.iload_n 2, 1) := by decide +kernel
theorem dX10_span_44 : decode cX10_span 44 = .ok (.iadd, 1) := by decide +kernel
theorem dX10_span_45 : decode cX10_span 45 = .ok (.iload_n 3, 1) := by decide +kernel
theorem dX10_span_46 : decode cX10_span 46 = .ok (.iastore, 1) := by decide +kernel
theorem dX10_span_47 : decode cX10_span 47 = .ok (.iload 4, 2) := by decide +kernel
theorem dX10_span_49 : decode cX10_span 49 = .ok (.ireturn, 1) := by decide +kernel
theorem dX10_isIn_0 : decode cX10_isIn 0 = .ok (.aload_n 0, 1) := by decide +kernel
theorem dX10_isIn_1 : decode cX10_isIn 1 = .ok (.getfield 28, 3) := by decide +kernel
theorem dX10_isIn_4 : decode cX10_isIn 4 = .ok (.iconst 5, 1) := by decide +kernel
theorem dX10_isIn_5 : decode cX10_isIn 5 = .ok (.iload_n 1, 1) := by decide +kernel
theorem dX10_isIn_6 : decode cX10_isIn 6 = .ok (.imul, 1) := by decide +kernel
theorem dX10_isIn_7 : decode cX10_isIn 7 = .ok (.iload_n 2, 1) := by decide +kernel
theorem dX10_isIn_8 : decode cX10_isIn 8 = .ok (.iadd, 1) := by decide +kernel
theorem dX10_isIn_9 : decode cX10_isIn 9 = .ok (.iaload, 1) := by decide +kernel
theorem dX10_isIn_10 : decode cX10_isIn 10 = .ok (.istore 4, 2) := by decide +kernel
theorem dX10_isIn_12 : decode cX10_isIn 12 = .ok (.iload_n 3, 1) := by decide +kernel
theorem dX10_isIn_13 : decode cX10_isIn 13 = .ok (.i2l, 1) := by decide +kernel
theorem dX10_isIn_14 : decode cX10_isIn 14 = .ok (.iload 4, 2) := by decide +kernel
theorem dX10_isIn_16 : decode cX10_isIn 16 = .ok (.bipush 100, 2) := by decide +kernel
theorem dX10_isIn_18 : decode cX10_isIn 18 = .ok (.idiv, 1) := by decide +kernel
theorem dX10_isIn_19 : decode cX10_isIn 19 = .ok (.i2l, 1) := by decide +kernel
theorem dX10_isIn_20 : decode cX10_isIn 20 = .ok (.iload 4, 2) := by decide +kernel
theorem dX10_isIn_22 : decode cX10_isIn 22 = .ok (.bipush 100, 2) := by decide +kernel
theorem dX10_isIn_24 : decode cX10_isIn 24 = .ok (.irem, 1) := by decide +kernel
theorem dX10_isIn_25 : decode cX10_isIn 25 = .ok (.i2l, 1) := by decide +kernel
theorem dX10_isIn_26 : decode cX10_isIn 26 = .ok (.invokestatic 95, 3) := by decide +kernel
theorem dX10_isIn_29 : decode cX10_isIn 29 = .ok (.ireturn, 1) := by decide +kernel
theorem dX10_heldBy_0 : decode cX10_heldBy 0 = .ok (.iconst 0, 1) := by decide +kernel
theorem dX10_heldBy_1 : decode cX10_heldBy 1 = .ok (.istore_n 3, 1) := by decide +kernel
theorem dX10_heldBy_2 : decode cX10_heldBy 2 = .ok (.iconst 0, 1) := by decide +kernel
theorem dX10_heldBy_3 : decode cX10_heldBy 3 = .ok (.istore 4, 2) := by decide +kernel
theorem dX10_heldBy_5 : decode cX10_heldBy 5 = .ok (.iload 4, 2) := by decide +kernel
theorem dX10_heldBy_7 : decode cX10_heldBy 7 = .ok (.iconst 5, 1) := by decide +kernel
theorem dX10_heldBy_8 : decode cX10_heldBy 8 = .ok (.if_icmp .ge 87, 3) := by decide +kernel
theorem dX10_heldBy_11 : decode cX10_heldBy 11 = .ok (.iload_n 2, 1) := by decide +kernel
theorem dX10_heldBy_12 : decode cX10_heldBy 12 = .ok (.ifCond .eq 23, 3) := by decide +kernel
theorem dX10_heldBy_15 : decode cX10_heldBy 15 = .ok (.aload_n 0, 1) := by decide +kernel
theorem dX10_heldBy_16 : decode cX10_heldBy 16 = .ok (.getfield 19, 3) := by decide +kernel
theorem dX10_heldBy_19 : decode cX10_heldBy 19 = .ok (.iload 4, 2) := by decide +kernel
theorem dX10_heldBy_21 : decode cX10_heldBy 21 = .ok (.iaload, 1) := by decide +kernel
theorem dX10_heldBy_22 : decode cX10_heldBy 22 = .ok (.aload_n 0, 1) := by decide +kernel
theorem dX10_heldBy_23 : decode cX10_heldBy 23 = .ok (.getfield 25, 3) := by decide +kernel
theorem dX10_heldBy_26 : decode cX10_heldBy 26 = .ok (.iload 4, 2) := by decide +kernel
theorem dX10_heldBy_28 : decode cX10_heldBy 28 = .ok (.iaload, 1) := by decide +kernel
theorem dX10_heldBy_29 : decode cX10_heldBy 29 = .ok (.iconst (-1), 1) := by decide +kernel
theorem dX10_heldBy_30 : decode cX10_heldBy 30 = .ok (.ixor, 1) := by decide +kernel
theorem dX10_heldBy_31 : decode cX10_heldBy 31 = .ok (.iand, 1) := by decide +kernel
theorem dX10_heldBy_32 : decode cX10_heldBy 32 = .ok (.goto 9, 3) := by decide +kernel
theorem dX10_heldBy_35 : decode cX10_heldBy 35 = .ok (.aload_n 0, 1) := by decide +kernel
theorem dX10_heldBy_36 : decode cX10_heldBy 36 = .ok (.iload 4, 2) := by decide +kernel
theorem dX10_heldBy_38 : decode cX10_heldBy 38 = .ok (.invokevirtual 116, 3) := by decide +kernel
theorem dX10_heldBy_41 : decode cX10_heldBy 41 = .ok (.istore 5, 2) := by decide +kernel
theorem dX10_heldBy_43 : decode cX10_heldBy 43 = .ok (.iconst 0, 1) := by decide +kernel
theorem dX10_heldBy_44 : decode cX10_heldBy 44 = .ok (.istore 6, 2) := by decide +kernel
theorem dX10_heldBy_46 : decode cX10_heldBy 46 = .ok (.iload 6, 2) := by decide +kernel
theorem dX10_heldBy_48 : decode cX10_heldBy 48 = .ok (.bipush 16, 2) := by decide +kernel
theorem dX10_heldBy_50 : decode cX10_heldBy 50 = .ok (.if_icmp .ge 39, 3) := by decide +kernel
theorem dX10_heldBy_53 : decode cX10_heldBy 53 = .ok (.iload 5, 2) := by decide +kernel
theorem dX10_heldBy_55 : decode cX10_heldBy 55 = .ok (.iload 6, 2) := by decide +kernel
theorem dX10_heldBy_57 : decode cX10_heldBy 57 = .ok (.ishr, 1) := by decide +kernel
theorem dX10_heldBy_58 : decode cX10_heldBy 58 = .ok (.iconst 1, 1) := by decide +kernel
theorem dX10_heldBy_59 : decode cX10_heldBy 59 = .ok (.iand, 1) := by decide +kernel
theorem dX10_heldBy_60 : decode cX10_heldBy 60 = .ok (.iconst 1, 1) := by decide +kernel
theorem dX10_heldBy_61 : decode cX10_heldBy 61 = .ok (.if_icmp .ne 22, 3) := by decide +kernel
theorem dX10_heldBy_64 : decode cX10_heldBy 64 = .ok (.aload_n 0, 1) := by decide +kernel
theorem dX10_heldBy_65 : decode cX10_heldBy 65 = .ok (.iload_n 1, 1) := by decide +kernel
theorem dX10_heldBy_66 : decode cX10_heldBy 66 = .ok (.iload 4, 2) := by decide +kernel
theorem dX10_heldBy_68 : decode cX10_heldBy 68 = .ok (.iload 6, 2) := by decide +kernel
theorem dX10_heldBy_70 : decode cX10_heldBy 70 = .ok (.invokevirtual 131, 3) := by decide +kernel
theorem dX10_heldBy_73 : decode cX10_heldBy 73 = .ok (.ifCond .eq 10, 3) := by decide +kernel
theorem dX10_heldBy_76 : decode cX10_heldBy 76 = .ok (.iload_n 3, 1) := by decide +kernel
theorem dX10_heldBy_77 : decode cX10_heldBy 77 = .ok (.iconst 1, 1) := by decide +kernel
theorem dX10_heldBy_78 : decode cX10_heldBy 78 = .ok (.iload 4, 2) := by decide +kernel
theorem dX10_heldBy_80 : decode cX10_heldBy 80 = .ok (.ishl, 1) := by decide +kernel
theorem dX10_heldBy_81 : decode cX10_heldBy 81 = .ok (.ior, 1) := by decide +kernel
theorem dX10_heldBy_82 : decode cX10_heldBy 82 = .ok (.istore_n 3, 1) := by decide +kernel
theorem dX10_heldBy_83 : decode cX10_heldBy 83 = .ok (.iinc 6 1, 3) := by decide +kernel
theorem dX10_heldBy_86 : decode cX10_heldBy 86 = .ok (.goto (-40), 3) := by decide +kernel
theorem dX10_heldBy_89 : decode cX10_heldBy 89 = .ok (.iinc 4 1, 3) := by decide +kernel
theorem dX10_heldBy_92 : decode cX10_heldBy 92 = .ok (.goto (-87), 3) := by decide +kernel
theorem dX10_heldBy_95 : decode cX10_heldBy 95 = .ok (.iload_n 3, 1) := by decide +kernel
theorem dX10_heldBy_96 : decode cX10_heldBy 96 = .ok (.ireturn, 1) := by decide +kernel
theorem dX10_isLit_0 : decode cX10_isLit 0 = .ok (.aload_n 0, 1) := by decide +kernel
theorem dX10_isLit_1 : decode cX10_isLit 1 = .ok (.iload_n 1, 1) := by decide +kernel
theorem dX10_isLit_2 : decode cX10_isLit 2 = .ok (.iconst 0, 1) := by decide +kernel
theorem dX10_isLit_3 : decode cX10_isLit 3 = .ok (.invokevirtual 135, 3) := by decide +kernel
theorem dX10_isLit_6 : decode cX10_isLit 6 = .ok (.invokestatic 101, 3) := by decide +kernel
theorem dX10_isLit_9 : decode cX10_isLit 9 = .ok (.aload_n 0, 1) := by decide +kernel
theorem dX10_isLit_10 : decode cX10_isLit 10 = .ok (.getfield 31, 3) := by decide +kernel
theorem dX10_isLit_13 : decode cX10_isLit 13 = .ok (.iload_n 1, 1) := by decide +kernel
theorem dX10_isLit_14 : decode cX10_isLit 14 = .ok (.iaload, 1) := by decide +kernel
theorem dX10_isLit_15 : decode cX10_isLit 15 = .ok (.if_icmp .lt 7, 3) := by decide +kernel
theorem dX10_isLit_18 : decode cX10_isLit 18 = .ok (.iconst 1, 1) := by decide +kernel
theorem dX10_isLit_19 : decode cX10_isLit 19 = .ok (.goto 4, 3) := by decide +kernel
theorem dX10_isLit_22 : decode cX10_isLit 22 = .ok (.iconst 0, 1) := by decide +kernel
theorem dX10_isLit_23 : decode cX10_isLit 23 = .ok (.ireturn, 1) := by decide +kernel
theorem dX10_lit_0 : decode cX10_lit 0 = .ok (.iconst 0, 1) := by decide +kernel
theorem dX10_lit_1 : decode cX10_lit 1 = .ok (.istore_n 1, 1) := by decide +kernel
theorem dX10_lit_2 : decode cX10_lit 2 = .ok (.iconst 0, 1) := by decide +kernel
theorem dX10_lit_3 : decode cX10_lit 3 = .ok (.istore_n 2, 1) := by decide +kernel
theorem dX10_lit_4 : decode cX10_lit 4 = .ok (.iload_n 2, 1) := by decide +kernel
theorem dX10_lit_5 : decode cX10_lit 5 = .ok (.aload_n 0, 1) := by decide +kernel
theorem dX10_lit_6 : decode cX10_lit 6 = .ok (.getfield 124, 3) := by decide +kernel
theorem dX10_lit_9 : decode cX10_lit 9 = .ok (.if_icmp .ge 23, 3) := by decide +kernel
theorem dX10_lit_12 : decode cX10_lit 12 = .ok (.aload_n 0, 1) := by decide +kernel
theorem dX10_lit_13 : decode cX10_lit 13 = .ok (.iload_n 2, 1) := by decide +kernel
theorem dX10_lit_14 : decode cX10_lit 14 = .ok (.invokevirtual 139, 3) := by decide +kernel
theorem dX10_lit_17 : decode cX10_lit 17 = .ok (.ifCond .eq 9, 3) := by decide +kernel
theorem dX10_lit_20 : decode cX10_lit 20 = .ok (.iload_n 1, 1) := by decide +kernel
theorem dX10_lit_21 : decode cX10_lit 21 = .ok (.iconst 1, 1) := by decide +kernel
theorem dX10_lit_22 : decode cX10_lit 22 = .ok (.iload_n 2, 1) := by decide +kernel
theorem dX10_lit_23 : decode cX10_lit 23 = .ok (.ishl, 1) := by decide +kernel
theorem dX10_lit_24 : decode cX10_lit 24 = .ok (.ior, 1) := by decide +kernel
theorem dX10_lit_25 : decode cX10_lit 25 = .ok (.istore_n 1, 1) := by decide +kernel
theorem dX10_lit_26 : decode cX10_lit 26 = .ok (.iinc 2 1, 3) := by decide +kernel
theorem dX10_lit_29 : decode cX10_lit 29 = .ok (.goto (-25), 3) := by decide +kernel
theorem dX10_lit_32 : decode cX10_lit 32 = .ok (.iload_n 1, 1) := by decide +kernel
theorem dX10_lit_33 : decode cX10_lit 33 = .ok (.ireturn, 1) := by decide +kernel
theorem dX10_held_0 : decode cX10_held 0 = .ok (.aload_n 0, 1) := by decide +kernel
theorem dX10_held_1 : decode cX10_held 1 = .ok (.iload_n 1, 1) := by decide +kernel
theorem dX10_held_2 : decode cX10_held 2 = .ok (.invokevirtual 128, 3) := by decide +kernel
theorem dX10_held_5 : decode cX10_held 5 = .ok (.ifCond .eq 12, 3) := by decide +kernel
theorem dX10_held_8 : decode cX10_held 8 = .ok (.aload_n 0, 1) := by decide +kernel
theorem dX10_held_9 : decode cX10_held 9 = .ok (.iload_n 1, 1) := by decide +kernel
theorem dX10_held_10 : decode cX10_held 10 = .ok (.iconst 0, 1) := by decide +kernel
theorem dX10_held_11 : decode cX10_held 11 = .ok (.invokevirtual 135, 3) := by decide +kernel
theorem dX10_held_14 : decode cX10_held 14 = .ok (.goto 4, 3) := by decide +kernel
theorem dX10_held_17 : decode cX10_held 17 = .ok (.iconst (-1), 1) := by decide +kernel
theorem dX10_held_18 : decode cX10_held 18 = .ok (.ireturn, 1) := by decide +kernel
theorem dX10_miss_0 : decode cX10_miss 0 = .ok (.iconst 0, 1) := by decide +kernel
theorem dX10_miss_1 : decode cX10_miss 1 = .ok (.istore_n 2, 1) := by decide +kernel
theorem dX10_miss_2 : decode cX10_miss 2 = .ok (.iconst 0, 1) := by decide +kernel
theorem dX10_miss_3 : decode cX10_miss 3 = .ok (.istore_n 3, 1) := by decide +kernel
theorem dX10_miss_4 : decode cX10_miss 4 = .ok (.iconst 0, 1) := by decide +kernel
theorem dX10_miss_5 : decode cX10_miss 5 = .ok (.istore 4, 2) := by decide +kernel
theorem dX10_miss_7 : decode cX10_miss 7 = .ok (.iconst 0, 1) := by decide +kernel
theorem dX10_miss_8 : decode cX10_miss 8 = .ok (.istore 5, 2) := by decide +kernel
theorem dX10_miss_10 : decode cX10_miss 10 = .ok (.iconst 0, 1) := by decide +kernel
theorem dX10_miss_11 : decode cX10_miss 11 = .ok (.istore 6, 2) := by decide +kernel
theorem dX10_miss_13 : decode cX10_miss 13 = .ok (.iconst 0, 1) := by decide +kernel
theorem dX10_miss_14 : decode cX10_miss 14 = .ok (.istore 7, 2) := by decide +kernel
theorem dX10_miss_16 : decode cX10_miss 16 = .ok (.iconst 0, 1) := by decide +kernel
theorem dX10_miss_17 : decode cX10_miss 17 = .ok (.istore 8, 2) := by decide +kernel
theorem dX10_miss_19 : decode cX10_miss 19 = .ok (.iload 8, 2) := by decide +kernel
theorem dX10_miss_21 : decode cX10_miss 21 = .ok (.iconst 5, 1) := by decide +kernel
theorem dX10_miss_22 : decode cX10_miss 22 = .ok (.if_icmp .ge 86, 3) := by decide +kernel
theorem dX10_miss_25 : decode cX10_miss 25 = .ok (.iload_n 1, 1) := by decide +kernel
theorem dX10_miss_26 : decode cX10_miss 26 = .ok (.iload 8, 2) := by decide +kernel
theorem dX10_miss_28 : decode cX10_miss 28 = .ok (.ishr, 1) := by decide +kernel
theorem dX10_miss_29 : decode cX10_miss 29 = .ok (.iconst 1, 1) := by decide +kernel
theorem dX10_miss_30 : decode cX10_miss 30 = .ok (.iand, 1) := by decide +kernel
theorem dX10_miss_31 : decode cX10_miss 31 = .ok (.ifCond .ne 6, 3) := by decide +kernel
theorem dX10_miss_34 : decode cX10_miss 34 = .ok (.goto 68, 3) := by decide +kernel
theorem dX10_miss_37 : decode cX10_miss 37 = .ok (.iinc 2 1, 3) := by decide +kernel
theorem dX10_miss_40 : decode cX10_miss 40 = .ok (.iload_n 3, 1) := by decide +kernel
theorem dX10_miss_41 : decode cX10_miss 41 = .ok (.iload 8, 2) := by decide +kernel
theorem dX10_miss_43 : decode cX10_miss 43 = .ok (.iadd, 1) := by decide +kernel
theorem dX10_miss_44 : decode cX10_miss 44 = .ok (.istore_n 3, 1) := by decide +kernel
theorem dX10_miss_45 : decode cX10_miss 45 = .ok (.iload 4, 2) := by decide +kernel
theorem dX10_miss_47 : decode cX10_miss 47 = .ok (.aload_n 0, 1) := by decide +kernel
theorem dX10_miss_48 : decode cX10_miss 48 = .ok (.getfield 75, 3) := by decide +kernel
theorem dX10_miss_51 : decode cX10_miss 51 = .ok (.iload 8, 2) := by decide +kernel
theorem dX10_miss_53 : decode cX10_miss 53 = .ok (.iaload, 1) := by decide +kernel
theorem dX10_miss_54 : decode cX10_miss 54 = .ok (.iadd, 1) := by decide +kernel
theorem dX10_miss_55 : decode cX10_miss 55 = .ok (.istore 4, 2) := by decide +kernel
theorem dX10_miss_57 : decode cX10_miss 57 = .ok (.iload 5, 2) := by decide +kernel
theorem dX10_miss_59 : decode cX10_miss 59 = .ok (.iload 8, 2) := by decide +kernel
theorem dX10_miss_61 : decode cX10_miss 61 = .ok (.iload 8, 2) := by decide +kernel
theorem dX10_miss_63 : decode cX10_miss 63 = .ok (.imul, 1) := by decide +kernel
theorem dX10_miss_64 : decode cX10_miss 64 = .ok (.iadd, 1) := by decide +kernel
theorem dX10_miss_65 : decode cX10_miss 65 = .ok (.istore 5, 2) := by decide +kernel
theorem dX10_miss_67 : decode cX10_miss 67 = .ok (.iload 6, 2) := by decide +kernel
theorem dX10_miss_69 : decode cX10_miss 69 = .ok (.iload 8, 2) := by decide +kernel
theorem dX10_miss_71 : decode cX10_miss 71 = .ok (.aload_n 0, 1) := by decide +kernel
theorem dX10_miss_72 : decode cX10_miss 72 = .ok (.getfield 75, 3) := by decide +kernel
theorem dX10_miss_75 : decode cX10_miss 75 = .ok (.iload 8, 2) := by decide +kernel
theorem dX10_miss_77 : decode cX10_miss 77 = .ok (.iaload, 1) := by decide +kernel
theorem dX10_miss_78 : decode cX10_miss 78 = .ok (.imul, 1) := by decide +kernel
theorem dX10_miss_79 : decode cX10_miss 79 = .ok (.iadd, 1) := by decide +kernel
theorem dX10_miss_80 : decode cX10_miss 80 = .ok (.istore 6, 2) := by decide +kernel
theorem dX10_miss_82 : decode cX10_miss 82 = .ok (.iload 7, 2) := by decide +kernel
theorem dX10_miss_84 : decode cX10_miss 84 = .ok (.aload_n 0, 1) := by decide +kernel
theorem dX10_miss_85 : decode cX10_miss 85 = .ok (.getfield 75, 3) := by decide +kernel
theorem dX10_miss_88 : decode cX10_miss 88 = .ok (.iload 8, 2) := by decide +kernel
theorem dX10_miss_90 : decode cX10_miss 90 = .ok (.iaload, 1) := by decide +kernel
theorem dX10_miss_91 : decode cX10_miss 91 = .ok (.aload_n 0, 1) := by decide +kernel
theorem dX10_miss_92 : decode cX10_miss 92 = .ok (.getfield 75, 3) := by decide +kernel
theorem dX10_miss_95 : decode cX10_miss 95 = .ok (.iload 8, 2) := by decide +kernel
theorem dX10_miss_97 : decode cX10_miss 97 = .ok (.iaload, 1) := by decide +kernel
theorem dX10_miss_98 : decode cX10_miss 98 = .ok (.imul, 1) := by decide +kernel
theorem dX10_miss_99 : decode cX10_miss 99 = .ok (.iadd, 1) := by decide +kernel
theorem dX10_miss_100 : decode cX10_miss 100 = .ok (.istore 7, 2) := by decide +kernel
theorem dX10_miss_102 : decode cX10_miss 102 = .ok (.iinc 8 1, 3) := by decide +kernel
theorem dX10_miss_105 : decode cX10_miss 105 = .ok (.goto (-86), 3) := by decide +kernel
theorem dX10_miss_108 : decode cX10_miss 108 = .ok (.iload_n 2, 1) := by decide +kernel
theorem dX10_miss_109 : decode cX10_miss 109 = .ok (.iload 5, 2) := by decide +kernel
theorem dX10_miss_111 : decode cX10_miss 111 = .ok (.imul, 1) := by decide +kernel
theorem dX10_miss_112 : decode cX10_miss 112 = .ok (.iload_n 3, 1) := by decide +kernel
theorem dX10_miss_113 : decode cX10_miss 113 = .ok (.iload_n 3, 1) := by decide +kernel
theorem dX10_miss_114 : decode cX10_miss 114 = .ok (.imul, 1) := by decide +kernel
theorem dX10_miss_115 : decode cX10_miss 115 = .ok (.isub, 1) := by decide +kernel
theorem dX10_miss_116 : decode cX10_miss 116 = .ok (.istore 8, 2) := by decide +kernel
theorem dX10_miss_118 : decode cX10_miss 118 = .ok (.iload_n 2, 1) := by decide +kernel
theorem dX10_miss_119 : decode cX10_miss 119 = .ok (.iload 6, 2) := by decide +kernel
theorem dX10_miss_121 : decode cX10_miss 121 = .ok (.imul, 1) := by decide +kernel
theorem dX10_miss_122 : decode cX10_miss 122 = .ok (.iload_n 3, 1) := by decide +kernel
theorem dX10_miss_123 : decode cX10_miss 123 = .ok (.iload 4, 2) := by decide +kernel
theorem dX10_miss_125 : decode cX10_miss 125 = .ok (.imul, 1) := by decide +kernel
theorem dX10_miss_126 : decode cX10_miss 126 = .ok (.isub, 1) := by decide +kernel
theorem dX10_miss_127 : decode cX10_miss 127 = .ok (.istore 9, 2) := by decide +kernel
theorem dX10_miss_129 : decode cX10_miss 129 = .ok (.iload_n 2, 1) := by decide +kernel
theorem dX10_miss_130 : decode cX10_miss 130 = .ok (.iload 7, 2) := by decide +kernel
theorem dX10_miss_132 : decode cX10_miss 132 = .ok (.imul, 1) := by decide +kernel
theorem dX10_miss_133 : decode cX10_miss 133 = .ok (.iload 4, 2) := by decide +kernel
theorem dX10_miss_135 : decode cX10_miss 135 = .ok (.iload 4, 2) := by decide +kernel
theorem dX10_miss_137 : decode cX10_miss 137 = .ok (.imul, 1) := by decide +kernel
theorem dX10_miss_138 : decode cX10_miss 138 = .ok (.isub, 1) := by decide +kernel
theorem dX10_miss_139 : decode cX10_miss 139 = .ok (.istore 10, 2) := by decide +kernel
theorem dX10_miss_141 : decode cX10_miss 141 = .ok (.aload_n 0, 1) := by decide +kernel
theorem dX10_miss_142 : decode cX10_miss 142 = .ok (.iload_n 2, 1) := by decide +kernel
theorem dX10_miss_143 : decode cX10_miss 143 = .ok (.iload 8, 2) := by decide +kernel
theorem dX10_miss_145 : decode cX10_miss 145 = .ok (.imul, 1) := by decide +kernel
theorem dX10_miss_146 : decode cX10_miss 146 = .ok (.putfield 142, 3) := by decide +kernel
theorem dX10_miss_149 : decode cX10_miss 149 = .ok (.iload_n 2, 1) := by decide +kernel
theorem dX10_miss_150 : decode cX10_miss 150 = .ok (.iconst 1, 1) := by decide +kernel
theorem dX10_miss_151 : decode cX10_miss 151 = .ok (.if_icmp .le 15, 3) := by decide +kernel
theorem dX10_miss_154 : decode cX10_miss 154 = .ok (.iload 8, 2) := by decide +kernel
theorem dX10_miss_156 : decode cX10_miss 156 = .ok (.iload 10, 2) := by decide +kernel
theorem dX10_miss_158 : decode cX10_miss 158 = .ok (.imul, 1) := by decide +kernel
theorem dX10_miss_159 : decode cX10_miss 159 = .ok (.iload 9, 2) := by decide +kernel
theorem dX10_miss_161 : decode cX10_miss 161 = .ok (.iload 9, 2) := by decide +kernel
theorem dX10_miss_163 : decode cX10_miss 163 = .ok (.imul, 1) := by decide +kernel
theorem dX10_miss_164 : decode cX10_miss 164 = .ok (.isub, 1) := by decide +kernel
theorem dX10_miss_165 : decode cX10_miss 165 = .ok (.ireturn, 1) := by decide +kernel
theorem dX10_miss_166 : decode cX10_miss 166 = .ok (.aload_n 0, 1) := by decide +kernel
theorem dX10_miss_167 : decode cX10_miss 167 = .ok (.iconst 1, 1) := by decide +kernel
theorem dX10_miss_168 : decode cX10_miss 168 = .ok (.putfield 142, 3) := by decide +kernel
theorem dX10_miss_171 : decode cX10_miss 171 = .ok (.iconst 0, 1) := by decide +kernel
theorem dX10_miss_172 : decode cX10_miss 172 = .ok (.ireturn, 1) := by decide +kernel
theorem dX10_findFrom_0 : decode cX10_findFrom 0 = .ok (.iload_n 3, 1) := by decide +kernel
theorem dX10_findFrom_1 : decode cX10_findFrom 1 = .ok (.iconst 5, 1) := by decide +kernel
theorem dX10_findFrom_2 : decode cX10_findFrom 2 = .ok (.if_icmp .ne 83, 3) := by decide +kernel
theorem dX10_findFrom_5 : decode cX10_findFrom 5 = .ok (.aload_n 0, 1) := by decide +kernel
theorem dX10_findFrom_6 : decode cX10_findFrom 6 = .ok (.iload_n 2, 1) := by decide +kernel
theorem dX10_findFrom_7 : decode cX10_findFrom 7 = .ok (.invokevirtual 145, 3) := by decide +kernel
theorem dX10_findFrom_10 : decode cX10_findFrom 10 = .ok (.istore 4, 2) := by decide +kernel
theorem dX10_findFrom_12 : decode cX10_findFrom 12 = .ok (.aload_n 0, 1) := by decide +kernel
theorem dX10_findFrom_13 : decode cX10_findFrom 13 = .ok (.getfield 84, 3) := by decide +kernel
theorem dX10_findFrom_16 : decode cX10_findFrom 16 = .ok (.iload_n 1, 1) := by decide +kernel
theorem dX10_findFrom_17 : decode cX10_findFrom 17 = .ok (.iaload, 1) := by decide +kernel
theorem dX10_findFrom_18 : decode cX10_findFrom 18 = .ok (.ifCond .le 15, 3) := by decide +kernel
theorem dX10_findFrom_21 : decode cX10_findFrom 21 = .ok (.iload 4, 2) := by decide +kernel
theorem dX10_findFrom_23 : decode cX10_findFrom 23 = .ok (.aload_n 0, 1) := by decide +kernel
theorem dX10_findFrom_24 : decode cX10_findFrom 24 = .ok (.getfield 81, 3) := by decide +kernel
theorem dX10_findFrom_27 : decode cX10_findFrom 27 = .ok (.iload_n 1, 1) := by decide +kernel
theorem dX10_findFrom_28 : decode cX10_findFrom 28 = .ok (.iaload, 1) := by decide +kernel
theorem dX10_findFrom_29 : decode cX10_findFrom 29 = .ok (.if_icmp .lt 4, 3) := by decide +kernel
theorem dX10_findFrom_32 : decode cX10_findFrom 32 = .ok (.return_, 1) := by decide +kernel
theorem dX10_findFrom_33 : decode cX10_findFrom 33 = .ok (.aload_n 0, 1) := by decide +kernel
theorem dX10_findFrom_34 : decode cX10_findFrom 34 = .ok (.getfield 81, 3) := by decide +kernel
theorem dX10_findFrom_37 : decode cX10_findFrom 37 = .ok (.iload_n 1, 1) := by decide +kernel
theorem dX10_findFrom_38 : decode cX10_findFrom 38 = .ok (.iload 4, 2) := by decide +kernel
theorem dX10_findFrom_40 : decode cX10_findFrom 40 = .ok (.iastore, 1) := by decide +kernel
theorem dX10_findFrom_41 : decode cX10_findFrom 41 = .ok (.aload_n 0, 1) := by decide +kernel
theorem dX10_findFrom_42 : decode cX10_findFrom 42 = .ok (.getfield 84, 3) := by decide +kernel
theorem dX10_findFrom_45 : decode cX10_findFrom 45 = .ok (.iload_n 1, 1) := by decide +kernel
theorem dX10_findFrom_46 : decode cX10_findFrom 46 = .ok (.aload_n 0, 1) := by decide +kernel
theorem dX10_findFrom_47 : decode cX10_findFrom 47 = .ok (.getfield 142, 3) := by decide +kernel
theorem dX10_findFrom_50 : decode cX10_findFrom 50 = .ok (.iastore, 1) := by decide +kernel
theorem dX10_findFrom_51 : decode cX10_findFrom 51 = .ok (.iconst 0, 1) := by decide +kernel
theorem dX10_findFrom_52 : decode cX10_findFrom 52 = .ok (.istore 5, 2) := by decide +kernel
theorem dX10_findFrom_54 : decode cX10_findFrom 54 = .ok (.iload 5, 2) := by decide +kernel
theorem dX10_findFrom_56 : decode cX10_findFrom 56 = .ok (.iconst 5, 1) := by decide +kernel
theorem dX10_findFrom_57 : decode cX10_findFrom 57 = .ok (.if_icmp .ge 27, 3) := by decide +kernel
theorem dX10_findFrom_60 : decode cX10_findFrom 60 = .ok (.aload_n 0, 1) := by decide +kernel
theorem dX10_findFrom_61 : decode cX10_findFrom 61 = .ok (.getfield 78, 3) := by decide +kernel
theorem dX10_findFrom_64 : decode cX10_findFrom 64 = .ok (.iconst 5, 1) := by decide +kernel
theorem dX10_findFrom_65 : decode cX10_findFrom 65 = .ok (.iload_n 1, 1) := by decide +kernel
theorem dX10_findFrom_66 : decode cX10_findFrom 66 = .ok (.imul, 1) := by decide +kernel
theorem dX10_findFrom_67 : decode cX10_findFrom 67 = .ok (.iload 5, 2) := by decide +kernel
theorem dX10_findFrom_69 : decode cX10_findFrom 69 = .ok (.iadd, 1) := by decide +kernel
theorem dX10_findFrom_70 : decode cX10_findFrom 70 = .ok (.aload_n 0, 1) := by decide +kernel
theorem dX10_findFrom_71 : decode cX10_findFrom 71 = .ok (.getfield 75, 3) := by decide +kernel
theorem dX10_findFrom_74 : decode cX10_findFrom 74 = .ok (.iload 5, 2) := by decide +kernel
theorem dX10_findFrom_76 : decode cX10_findFrom 76 = .ok (.iaload, 1) := by decide +kernel
theorem dX10_findFrom_77 : decode cX10_findFrom 77 = .ok (.iastore, 1) := by decide +kernel
theorem dX10_findFrom_78 : decode cX10_findFrom 78 = .ok (.iinc 5 1, 3) := by decide +kernel
theorem dX10_findFrom_81 : decode cX10_findFrom 81 = .ok (.goto (-27), 3) := by decide +kernel
theorem dX10_findFrom_84 : decode cX10_findFrom 84 = .ok (.return_, 1) := by decide +kernel
theorem dX10_findFrom_85 : decode cX10_findFrom 85 = .ok (.aload_n 0, 1) := by decide +kernel
theorem dX10_findFrom_86 : decode cX10_findFrom 86 = .ok (.getfield 75, 3) := by decide +kernel
theorem dX10_findFrom_89 : decode cX10_findFrom 89 = .ok (.iload_n 3, 1) := by decide +kernel
theorem dX10_findFrom_90 : decode cX10_findFrom 90 = .ok (.iconst (-1), 1) := by decide +kernel
theorem dX10_findFrom_91 : decode cX10_findFrom 91 = .ok (.iastore, 1) := by decide +kernel
theorem dX10_findFrom_92 : decode cX10_findFrom 92 = .ok (.iload_n 2, 1) := by decide +kernel
theorem dX10_findFrom_93 : decode cX10_findFrom 93 = .ok (.iload_n 3, 1) := by decide +kernel
theorem dX10_findFrom_94 : decode cX10_findFrom 94 = .ok (.ishr, 1) := by decide +kernel
theorem dX10_findFrom_95 : decode cX10_findFrom 95 = .ok (.iconst 1, 1) := by decide +kernel
theorem dX10_findFrom_96 : decode cX10_findFrom 96 = .ok (.iand, 1) := by decide +kernel
theorem dX10_findFrom_97 : decode cX10_findFrom 97 = .ok (.ifCond .ne 13, 3) := by decide +kernel
theorem dX10_findFrom_100 : decode cX10_findFrom 100 = .ok (.aload_n 0, 1) := by decide +kernel
theorem dX10_findFrom_101 : decode cX10_findFrom 101 = .ok (.iload_n 1, 1) := by decide +kernel
theorem dX10_findFrom_102 : decode cX10_findFrom 102 = .ok (.iload_n 2, 1) := by decide +kernel
theorem dX10_findFrom_103 : decode cX10_findFrom 103 = .ok (.iload_n 3, 1) := by decide +kernel
theorem dX10_findFrom_104 : decode cX10_findFrom 104 = .ok (.iconst 1, 1) := by decide +kernel
theorem dX10_findFrom_105 : decode cX10_findFrom 105 = .ok (.iadd, 1) := by decide +kernel
theorem dX10_findFrom_106 : decode cX10_findFrom 106 = .ok (.invokevirtual 148, 3) := by decide +kernel
theorem dX10_findFrom_109 : decode cX10_findFrom 109 = .ok (.return_, 1) := by decide +kernel
theorem dX10_findFrom_110 : decode cX10_findFrom 110 = .ok (.iconst 0, 1) := by decide +kernel
theorem dX10_findFrom_111 : decode cX10_findFrom 111 = .ok (.istore 4, 2) := by decide +kernel
theorem dX10_findFrom_113 : decode cX10_findFrom 113 = .ok (.iload 4, 2) := by decide +kernel
theorem dX10_findFrom_115 : decode cX10_findFrom 115 = .ok (.bipush 16, 2) := by decide +kernel
theorem dX10_findFrom_117 : decode cX10_findFrom 117 = .ok (.if_icmp .ge 53, 3) := by decide +kernel
theorem dX10_findFrom_120 : decode cX10_findFrom 120 = .ok (.aload_n 0, 1) := by decide +kernel
theorem dX10_findFrom_121 : decode cX10_findFrom 121 = .ok (.iload_n 3, 1) := by decide +kernel
theorem dX10_findFrom_122 : decode cX10_findFrom 122 = .ok (.invokevirtual 116, 3) := by decide +kernel
theorem dX10_findFrom_125 : decode cX10_findFrom 125 = .ok (.iload 4, 2) := by decide +kernel
theorem dX10_findFrom_127 : decode cX10_findFrom 127 = .ok (.ishr, 1) := by decide +kernel
theorem dX10_findFrom_128 : decode cX10_findFrom 128 = .ok (.iconst 1, 1) := by decide +kernel
theorem dX10_findFrom_129 : decode cX10_findFrom 129 = .ok (.iand, 1) := by decide +kernel
theorem dX10_findFrom_130 : decode cX10_findFrom 130 = .ok (.ifCond .eq 34, 3) := by decide +kernel
theorem dX10_findFrom_133 : decode cX10_findFrom 133 = .ok (.aload_n 0, 1) := by decide +kernel
theorem dX10_findFrom_134 : decode cX10_findFrom 134 = .ok (.iload_n 1, 1) := by decide +kernel
theorem dX10_findFrom_135 : decode cX10_findFrom 135 = .ok (.iload_n 3, 1) := by decide +kernel
theorem dX10_findFrom_136 : decode cX10_findFrom 136 = .ok (.iload 4, 2) := by decide +kernel
theorem dX10_findFrom_138 : decode cX10_findFrom 138 = .ok (.invokevirtual 131, 3) := by decide +kernel
theorem dX10_findFrom_141 : decode cX10_findFrom 141 = .ok (.ifCond .ne 6, 3) := by decide +kernel
theorem dX10_findFrom_144 : decode cX10_findFrom 144 = .ok (.goto 20, 3) := by decide +kernel
theorem dX10_findFrom_147 : decode cX10_findFrom 147 = .ok (.aload_n 0, 1) := by decide +kernel
theorem dX10_findFrom_148 : decode cX10_findFrom 148 = .ok (.getfield 75, 3) := by decide +kernel
theorem dX10_findFrom_151 : decode cX10_findFrom 151 = .ok (.iload_n 3, 1) := by decide +kernel
theorem dX10_findFrom_152 : decode cX10_findFrom 152 = .ok (.iload 4, 2) := by decide +kernel
theorem dX10_findFrom_154 : decode cX10_findFrom 154 = .ok (.iastore, 1) := by decide +kernel
theorem dX10_findFrom_155 : decode cX10_findFrom 155 = .ok (.aload_n 0, 1) := by decide +kernel
theorem dX10_findFrom_156 : decode cX10_findFrom 156 = .ok (.iload_n 1, 1) := by decide +kernel
theorem dX10_findFrom_157 : decode cX10_findFrom 157 = .ok (.iload_n 2, 1) := by decide +kernel
theorem dX10_findFrom_158 : decode cX10_findFrom 158 = .ok (.iload_n 3, 1) := by decide +kernel
theorem dX10_findFrom_159 : decode cX10_findFrom 159 = .ok (.iconst 1, 1) := by decide +kernel
theorem dX10_findFrom_160 : decode cX10_findFrom 160 = .ok (.iadd, 1) := by decide +kernel
theorem dX10_findFrom_161 : decode cX10_findFrom 161 = .ok (.invokevirtual 148, 3) := by decide +kernel
theorem dX10_findFrom_164 : decode cX10_findFrom 164 = .ok (.iinc 4 1, 3) := by decide +kernel
theorem dX10_findFrom_167 : decode cX10_findFrom 167 = .ok (.goto (-54), 3) := by decide +kernel
theorem dX10_findFrom_170 : decode cX10_findFrom 170 = .ok (.return_, 1) := by decide +kernel
theorem dX10_findTrack_0 : decode cX10_findTrack 0 = .ok (.aload_n 0, 1) := by decide +kernel
theorem dX10_findTrack_1 : decode cX10_findTrack 1 = .ok (.iload_n 1, 1) := by decide +kernel
theorem dX10_findTrack_2 : decode cX10_findTrack 2 = .ok (.invokevirtual 139, 3) := by decide +kernel
theorem dX10_findTrack_5 : decode cX10_findTrack 5 = .ok (.ifCond .ne 5, 3) := by decide +kernel
theorem dX10_findTrack_8 : decode cX10_findTrack 8 = .ok (.iconst 0, 1) := by decide +kernel
theorem dX10_findTrack_9 : decode cX10_findTrack 9 = .ok (.ireturn, 1) := by decide +kernel
theorem dX10_findTrack_10 : decode cX10_findTrack 10 = .ok (.aload_n 0, 1) := by decide +kernel
theorem dX10_findTrack_11 : decode cX10_findTrack 11 = .ok (.getfield 84, 3) := by decide +kernel
theorem dX10_findTrack_14 : decode cX10_findTrack 14 = .ok (.iload_n 1, 1) := by decide +kernel
theorem dX10_findTrack_15 : decode cX10_findTrack 15 = .ok (.iconst 0, 1) := by decide +kernel
theorem dX10_findTrack_16 : decode cX10_findTrack 16 = .ok (.iastore, 1) := by decide +kernel
theorem dX10_findTrack_17 : decode cX10_findTrack 17 = .ok (.aload_n 0, 1) := by decide +kernel
theorem dX10_findTrack_18 : decode cX10_findTrack 18 = .ok (.iload_n 1, 1) := by decide +kernel
theorem dX10_findTrack_19 : decode cX10_findTrack 19 = .ok (.aload_n 0, 1) := by decide +kernel
theorem dX10_findTrack_20 : decode cX10_findTrack 20 = .ok (.iload_n 1, 1) := by decide +kernel
theorem dX10_findTrack_21 : decode cX10_findTrack 21 = .ok (.iconst 0, 1) := by decide +kernel
theorem dX10_findTrack_22 : decode cX10_findTrack 22 = .ok (.invokevirtual 135, 3) := by decide +kernel
theorem dX10_findTrack_25 : decode cX10_findTrack 25 = .ok (.iconst 0, 1) := by decide +kernel
theorem dX10_findTrack_26 : decode cX10_findTrack 26 = .ok (.invokevirtual 148, 3) := by decide +kernel
theorem dX10_findTrack_29 : decode cX10_findTrack 29 = .ok (.iconst 1, 1) := by decide +kernel
theorem dX10_findTrack_30 : decode cX10_findTrack 30 = .ok (.ireturn, 1) := by decide +kernel
theorem dX10_track_0 : decode cX10_track 0 = .ok (.aload_n 0, 1) := by decide +kernel
theorem dX10_track_1 : decode cX10_track 1 = .ok (.iload_n 1, 1) := by decide +kernel
theorem dX10_track_2 : decode cX10_track 2 = .ok (.invokevirtual 128, 3) := by decide +kernel
theorem dX10_track_5 : decode cX10_track 5 = .ok (.ifCond .eq 10, 3) := by decide +kernel
theorem dX10_track_8 : decode cX10_track 8 = .ok (.iload_n 2, 1) := by decide +kernel
theorem dX10_track_9 : decode cX10_track 9 = .ok (.invokestatic 105, 3) := by decide +kernel
theorem dX10_track_12 : decode cX10_track 12 = .ok (.ifCond .ne 5, 3) := by decide +kernel
theorem dX10_track_15 : decode cX10_track 15 = .ok (.iconst (-1), 1) := by decide +kernel
theorem dX10_track_16 : decode cX10_track 16 = .ok (.ireturn, 1) := by decide +kernel
theorem dX10_track_17 : decode cX10_track 17 = .ok (.aload_n 0, 1) := by decide +kernel
theorem dX10_track_18 : decode cX10_track 18 = .ok (.iload_n 1, 1) := by decide +kernel
theorem dX10_track_19 : decode cX10_track 19 = .ok (.invokevirtual 152, 3) := by decide +kernel
theorem dX10_track_22 : decode cX10_track 22 = .ok (.ifCond .eq 16, 3) := by decide +kernel
theorem dX10_track_25 : decode cX10_track 25 = .ok (.aload_n 0, 1) := by decide +kernel
theorem dX10_track_26 : decode cX10_track 26 = .ok (.getfield 78, 3) := by decide +kernel
theorem dX10_track_29 : decode cX10_track 29 = .ok (.iconst 5, 1) := by decide +kernel
theorem dX10_track_30 : decode cX10_track 30 = .ok (.iload_n 1, 1) := by decide +kernel
theorem dX10_track_31 : decode cX10_track 31 = .ok (.imul, 1) := by decide +kernel
theorem dX10_track_32 : decode cX10_track 32 = .ok (.iload_n 2, 1) := by decide +kernel
theorem dX10_track_33 : decode cX10_track 33 = .ok (.iadd, 1) := by decide +kernel
theorem dX10_track_34 : decode cX10_track 34 = .ok (.iaload, 1) := by decide +kernel
theorem dX10_track_35 : decode cX10_track 35 = .ok (.ifCond .ge 6, 3) := by decide +kernel
theorem dX10_track_38 : decode cX10_track 38 = .ok (.bipush (-5), 2) := by decide +kernel
theorem dX10_track_40 : decode cX10_track 40 = .ok (.ireturn, 1) := by decide +kernel
theorem dX10_track_41 : decode cX10_track 41 = .ok (.aload_n 0, 1) := by decide +kernel
theorem dX10_track_42 : decode cX10_track 42 = .ok (.getfield 78, 3) := by decide +kernel
theorem dX10_track_45 : decode cX10_track 45 = .ok (.iconst 5, 1) := by decide +kernel
theorem dX10_track_46 : decode cX10_track 46 = .ok (.iload_n 1, 1) := by decide +kernel
theorem dX10_track_47 : decode cX10_track 47 = .ok (.imul, 1) := by decide +kernel
theorem dX10_track_48 : decode cX10_track 48 = .ok (.iload_n 2, 1) := by decide +kernel
theorem dX10_track_49 : decode cX10_track 49 = .ok (.iadd, 1) := by decide +kernel
theorem dX10_track_50 : decode cX10_track 50 = .ok (.iaload, 1) := by decide +kernel
theorem dX10_track_51 : decode cX10_track 51 = .ok (.ireturn, 1) := by decide +kernel
theorem dX10_common_0 : decode cX10_common 0 = .ok (.iload_n 0, 1) := by decide +kernel
theorem dX10_common_1 : decode cX10_common 1 = .ok (.istore_n 2, 1) := by decide +kernel
theorem dX10_common_2 : decode cX10_common 2 = .ok (.iload_n 1, 1) := by decide +kernel
theorem dX10_common_3 : decode cX10_common 3 = .ok (.istore_n 3, 1) := by decide +kernel
theorem dX10_common_4 : decode cX10_common 4 = .ok (.iload_n 3, 1) := by decide +kernel
theorem dX10_common_5 : decode cX10_common 5 = .ok (.ifCond .le 16, 3) := by decide +kernel
theorem dX10_common_8 : decode cX10_common 8 = .ok (.iload_n 2, 1) := by decide +kernel
theorem dX10_common_9 : decode cX10_common 9 = .ok (.iload_n 3, 1) := by decide +kernel
theorem dX10_common_10 : decode cX10_common 10 = .ok (.irem, 1) := by decide +kernel
theorem dX10_common_11 : decode cX10_common 11 = .ok (.istore 4, 2) := by decide +kernel
theorem dX10_common_13 : decode cX10_common 13 = .ok (.iload_n 3, 1) := by decide +kernel
theorem dX10_common_14 : decode cX10_common 14 = .ok (.istore_n 2, 1) := by decide +kernel
theorem dX10_common_15 : decode cX10_common 15 = .ok (.iload 4, 2) := by decide +kernel
theorem dX10_common_17 : decode cX10_common 17 = .ok (.istore_n 3, 1) := by decide +kernel
theorem dX10_common_18 : decode cX10_common 18 = .ok (.goto (-14), 3) := by decide +kernel
theorem dX10_common_21 : decode cX10_common 21 = .ok (.iload_n 2, 1) := by decide +kernel
theorem dX10_common_22 : decode cX10_common 22 = .ok (.ireturn, 1) := by decide +kernel
theorem dX10_miss__0 : decode cX10_miss_ 0 = .ok (.aload_n 0, 1) := by decide +kernel
theorem dX10_miss__1 : decode cX10_miss_ 1 = .ok (.iload_n 1, 1) := by decide +kernel
theorem dX10_miss__2 : decode cX10_miss_ 2 = .ok (.invokevirtual 128, 3) := by decide +kernel
theorem dX10_miss__5 : decode cX10_miss_ 5 = .ok (.ifCond .eq 13, 3) := by decide +kernel
theorem dX10_miss__8 : decode cX10_miss_ 8 = .ok (.iload_n 2, 1) := by decide +kernel
theorem dX10_miss__9 : decode cX10_miss_ 9 = .ok (.i2l, 1) := by decide +kernel
theorem dX10_miss__10 : decode cX10_miss_ 10 = .ok (.lconst 0, 1) := by decide +kernel
theorem dX10_miss__11 : decode cX10_miss_ 11 = .ok (.lconst 1, 1) := by decide +kernel
theorem dX10_miss__12 : decode cX10_miss_ 12 = .ok (.invokestatic 95, 3) := by decide +kernel
theorem dX10_miss__15 : decode cX10_miss_ 15 = .ok (.ifCond .ne 5, 3) := by decide +kernel
theorem dX10_miss__18 : decode cX10_miss_ 18 = .ok (.iconst (-1), 1) := by decide +kernel
theorem dX10_miss__19 : decode cX10_miss_ 19 = .ok (.ireturn, 1) := by decide +kernel
theorem dX10_miss__20 : decode cX10_miss_ 20 = .ok (.aload_n 0, 1) := by decide +kernel
theorem dX10_miss__21 : decode cX10_miss_ 21 = .ok (.iload_n 1, 1) := by decide +kernel
theorem dX10_miss__22 : decode cX10_miss_ 22 = .ok (.invokevirtual 152, 3) := by decide +kernel
theorem dX10_miss__25 : decode cX10_miss_ 25 = .ok (.ifCond .ne 6, 3) := by decide +kernel
theorem dX10_miss__28 : decode cX10_miss_ 28 = .ok (.bipush (-5), 2) := by decide +kernel
theorem dX10_miss__30 : decode cX10_miss_ 30 = .ok (.ireturn, 1) := by decide +kernel
theorem dX10_miss__31 : decode cX10_miss_ 31 = .ok (.aload_n 0, 1) := by decide +kernel
theorem dX10_miss__32 : decode cX10_miss_ 32 = .ok (.getfield 81, 3) := by decide +kernel
theorem dX10_miss__35 : decode cX10_miss_ 35 = .ok (.iload_n 1, 1) := by decide +kernel
theorem dX10_miss__36 : decode cX10_miss_ 36 = .ok (.iaload, 1) := by decide +kernel
theorem dX10_miss__37 : decode cX10_miss_ 37 = .ok (.aload_n 0, 1) := by decide +kernel
theorem dX10_miss__38 : decode cX10_miss_ 38 = .ok (.getfield 84, 3) := by decide +kernel
theorem dX10_miss__41 : decode cX10_miss_ 41 = .ok (.iload_n 1, 1) := by decide +kernel
theorem dX10_miss__42 : decode cX10_miss_ 42 = .ok (.iaload, 1) := by decide +kernel
theorem dX10_miss__43 : decode cX10_miss_ 43 = .ok (.invokestatic 155, 3) := by decide +kernel
theorem dX10_miss__46 : decode cX10_miss_ 46 = .ok (.istore_n 3, 1) := by decide +kernel
theorem dX10_miss__47 : decode cX10_miss_ 47 = .ok (.iload_n 2, 1) := by decide +kernel
theorem dX10_miss__48 : decode cX10_miss_ 48 = .ok (.ifCond .ne 14, 3) := by decide +kernel
theorem dX10_miss__51 : decode cX10_miss_ 51 = .ok (.aload_n 0, 1) := by decide +kernel
theorem dX10_miss__52 : decode cX10_miss_ 52 = .ok (.getfield 81, 3) := by decide +kernel
theorem dX10_miss__55 : decode cX10_miss_ 55 = .ok (.iload_n 1, 1) := by decide +kernel
theorem dX10_miss__56 : decode cX10_miss_ 56 = .ok (.iaload, 1) := by decide +kernel
theorem dX10_miss__57 : decode cX10_miss_ 57 = .ok (.iload_n 3, 1) := by decide +kernel
theorem dX10_miss__58 : decode cX10_miss_ 58 = .ok (.idiv, 1) := by decide +kernel
theorem dX10_miss__59 : decode cX10_miss_ 59 = .ok (.goto 11, 3) := by decide +kernel
theorem dX10_miss__62 : decode cX10_miss_ 62 = .ok (.aload_n 0, 1) := by decide +kernel
theorem dX10_miss__63 : decode cX10_miss_ 63 = .ok (.getfield 84, 3) := by decide +kernel
theorem dX10_miss__66 : decode cX10_miss_ 66 = .ok (.iload_n 1, 1) := by decide +kernel
theorem dX10_miss__67 : decode cX10_miss_ 67 = .ok (.iaload, 1) := by decide +kernel
theorem dX10_miss__68 : decode cX10_miss_ 68 = .ok (.iload_n 3, 1) := by decide +kernel
theorem dX10_miss__69 : decode cX10_miss_ 69 = .ok (.idiv, 1) := by decide +kernel
theorem dX10_miss__70 : decode cX10_miss_ 70 = .ok (.ireturn, 1) := by decide +kernel
theorem dX10_weightOf_0 : decode cX10_weightOf 0 = .ok (.bipush 100, 2) := by decide +kernel
theorem dX10_weightOf_2 : decode cX10_weightOf 2 = .ok (.aload_n 0, 1) := by decide +kernel
theorem dX10_weightOf_3 : decode cX10_weightOf 3 = .ok (.iload_n 1, 1) := by decide +kernel
theorem dX10_weightOf_4 : decode cX10_weightOf 4 = .ok (.iconst 0, 1) := by decide +kernel
theorem dX10_weightOf_5 : decode cX10_weightOf 5 = .ok (.invokevirtual 135, 3) := by decide +kernel
theorem dX10_weightOf_8 : decode cX10_weightOf 8 = .ok (.invokestatic 101, 3) := by decide +kernel
theorem dX10_weightOf_11 : decode cX10_weightOf 11 = .ok (.imul, 1) := by decide +kernel
theorem dX10_weightOf_12 : decode cX10_weightOf 12 = .ok (.bipush 10, 2) := by decide +kernel
theorem dX10_weightOf_14 : decode cX10_weightOf 14 = .ok (.aload_n 0, 1) := by decide +kernel
theorem dX10_weightOf_15 : decode cX10_weightOf 15 = .ok (.getfield 81, 3) := by decide +kernel
theorem dX10_weightOf_18 : decode cX10_weightOf 18 = .ok (.iload_n 1, 1) := by decide +kernel
theorem dX10_weightOf_19 : decode cX10_weightOf 19 = .ok (.iaload, 1) := by decide +kernel
theorem dX10_weightOf_20 : decode cX10_weightOf 20 = .ok (.imul, 1) := by decide +kernel
theorem dX10_weightOf_21 : decode cX10_weightOf 21 = .ok (.aload_n 0, 1) := by decide +kernel
theorem dX10_weightOf_22 : decode cX10_weightOf 22 = .ok (.getfield 84, 3) := by decide +kernel
theorem dX10_weightOf_25 : decode cX10_weightOf 25 = .ok (.iload_n 1, 1) := by decide +kernel
theorem dX10_weightOf_26 : decode cX10_weightOf 26 = .ok (.iaload, 1) := by decide +kernel
theorem dX10_weightOf_27 : decode cX10_weightOf 27 = .ok (.idiv, 1) := by decide +kernel
theorem dX10_weightOf_28 : decode cX10_weightOf 28 = .ok (.isub, 1) := by decide +kernel
theorem dX10_weightOf_29 : decode cX10_weightOf 29 = .ok (.istore_n 2, 1) := by decide +kernel
theorem dX10_weightOf_30 : decode cX10_weightOf 30 = .ok (.iload_n 2, 1) := by decide +kernel
theorem dX10_weightOf_31 : decode cX10_weightOf 31 = .ok (.ifCond .ge 7, 3) := by decide +kernel
theorem dX10_weightOf_34 : decode cX10_weightOf 34 = .ok (.iconst 0, 1) := by decide +kernel
theorem dX10_weightOf_35 : decode cX10_weightOf 35 = .ok (.goto 4, 3) := by decide +kernel
theorem dX10_weightOf_38 : decode cX10_weightOf 38 = .ok (.iload_n 2, 1) := by decide +kernel
theorem dX10_weightOf_39 : decode cX10_weightOf 39 = .ok (.ireturn, 1) := by decide +kernel
theorem dX10_weight_0 : decode cX10_weight 0 = .ok (.aload_n 0, 1) := by decide +kernel
theorem dX10_weight_1 : decode cX10_weight 1 = .ok (.iload_n 1, 1) := by decide +kernel
theorem dX10_weight_2 : decode cX10_weight 2 = .ok (.invokevirtual 128, 3) := by decide +kernel
theorem dX10_weight_5 : decode cX10_weight 5 = .ok (.ifCond .ne 5, 3) := by decide +kernel
theorem dX10_weight_8 : decode cX10_weight 8 = .ok (.iconst (-1), 1) := by decide +kernel
theorem dX10_weight_9 : decode cX10_weight 9 = .ok (.ireturn, 1) := by decide +kernel
theorem dX10_weight_10 : decode cX10_weight 10 = .ok (.aload_n 0, 1) := by decide +kernel
theorem dX10_weight_11 : decode cX10_weight 11 = .ok (.iload_n 1, 1) := by decide +kernel
theorem dX10_weight_12 : decode cX10_weight 12 = .ok (.invokevirtual 152, 3) := by decide +kernel
theorem dX10_weight_15 : decode cX10_weight 15 = .ok (.ifCond .eq 11, 3) := by decide +kernel
theorem dX10_weight_18 : decode cX10_weight 18 = .ok (.aload_n 0, 1) := by decide +kernel
theorem dX10_weight_19 : decode cX10_weight 19 = .ok (.iload_n 1, 1) := by decide +kernel
theorem dX10_weight_20 : decode cX10_weight 20 = .ok (.invokevirtual 159, 3) := by decide +kernel
theorem dX10_weight_23 : decode cX10_weight 23 = .ok (.goto 5, 3) := by decide +kernel
theorem dX10_weight_26 : decode cX10_weight 26 = .ok (.bipush (-5), 2) := by decide +kernel
theorem dX10_weight_28 : decode cX10_weight 28 = .ok (.ireturn, 1) := by decide +kernel
theorem dX10_areApart_0 : decode cX10_areApart 0 = .ok (.iconst 1, 1) := by decide +kernel
theorem dX10_areApart_1 : decode cX10_areApart 1 = .ok (.istore_n 3, 1) := by decide +kernel
theorem dX10_areApart_2 : decode cX10_areApart 2 = .ok (.iconst 0, 1) := by decide +kernel
theorem dX10_areApart_3 : decode cX10_areApart 3 = .ok (.istore 4, 2) := by decide +kernel
theorem dX10_areApart_5 : decode cX10_areApart 5 = .ok (.iload 4, 2) := by decide +kernel
theorem dX10_areApart_7 : decode cX10_areApart 7 = .ok (.iconst 5, 1) := by decide +kernel
theorem dX10_areApart_8 : decode cX10_areApart 8 = .ok (.if_icmp .ge 58, 3) := by decide +kernel
theorem dX10_areApart_11 : decode cX10_areApart 11 = .ok (.iload_n 3, 1) := by decide +kernel
theorem dX10_areApart_12 : decode cX10_areApart 12 = .ok (.ifCond .eq 46, 3) := by decide +kernel
theorem dX10_areApart_15 : decode cX10_areApart 15 = .ok (.aload_n 0, 1) := by decide +kernel
theorem dX10_areApart_16 : decode cX10_areApart 16 = .ok (.getfield 78, 3) := by decide +kernel
theorem dX10_areApart_19 : decode cX10_areApart 19 = .ok (.iconst 5, 1) := by decide +kernel
theorem dX10_areApart_20 : decode cX10_areApart 20 = .ok (.iload_n 1, 1) := by decide +kernel
theorem dX10_areApart_21 : decode cX10_areApart 21 = .ok (.imul, 1) := by decide +kernel
theorem dX10_areApart_22 : decode cX10_areApart 22 = .ok (.iload 4, 2) := by decide +kernel
theorem dX10_areApart_24 : decode cX10_areApart 24 = .ok (.iadd, 1) := by decide +kernel
theorem dX10_areApart_25 : decode cX10_areApart 25 = .ok (.iaload, 1) := by decide +kernel
theorem dX10_areApart_26 : decode cX10_areApart 26 = .ok (.ifCond .lt 28, 3) := by decide +kernel
theorem dX10_areApart_29 : decode cX10_areApart 29 = .ok (.aload_n 0, 1) := by decide +kernel
theorem dX10_areApart_30 : decode cX10_areApart 30 = .ok (.getfield 78, 3) := by decide +kernel
theorem dX10_areApart_33 : decode cX10_areApart 33 = .ok (.iconst 5, 1) := by decide +kernel
theorem dX10_areApart_34 : decode cX10_areApart 34 = .ok (.iload_n 1, 1) := by decide +kernel
theorem dX10_areApart_35 : decode cX10_areApart 35 = .ok (.imul, 1) := by decide +kernel
theorem dX10_areApart_36 : decode cX10_areApart 36 = .ok (.iload 4, 2) := by decide +kernel
theorem dX10_areApart_38 : decode cX10_areApart 38 = .ok (.iadd, 1) := by decide +kernel
theorem dX10_areApart_39 : decode cX10_areApart 39 = .ok (.iaload, 1) := by decide +kernel
theorem dX10_areApart_40 : decode cX10_areApart 40 = .ok (.aload_n 0, 1) := by decide +kernel
theorem dX10_areApart_41 : decode cX10_areApart 41 = .ok (.getfield 78, 3) := by decide +kernel
theorem dX10_areApart_44 : decode cX10_areApart 44 = .ok (.iconst 5, 1) := by decide +kernel
theorem dX10_areApart_45 : decode cX10_areApart 45 = .ok (.iload_n 2, 1) := by decide +kernel
theorem dX10_areApart_46 : decode cX10_areApart 46 = .ok (.imul, 1) := by decide +kernel
theorem dX10_areApart_47 : decode cX10_areApart 47 = .ok (.iload 4, 2) := by decide +kernel
theorem dX10_areApart_49 : decode cX10_areApart 49 = .ok (.iadd, 1) := by decide +kernel
theorem dX10_areApart_50 : decode cX10_areApart 50 = .ok (.iaload, 1) := by decide +kernel
theorem dX10_areApart_51 : decode cX10_areApart 51 = .ok (.if_icmp .eq 7, 3) := by decide +kernel
theorem dX10_areApart_54 : decode cX10_areApart 54 = .ok (.iconst 1, 1) := by decide +kernel
theorem dX10_areApart_55 : decode cX10_areApart 55 = .ok (.goto 4, 3) := by decide +kernel
theorem dX10_areApart_58 : decode cX10_areApart 58 = .ok (.iconst 0, 1) := by decide +kernel
theorem dX10_areApart_59 : decode cX10_areApart 59 = .ok (.istore_n 3, 1) := by decide +kernel
theorem dX10_areApart_60 : decode cX10_areApart 60 = .ok (.iinc 4 1, 3) := by decide +kernel
theorem dX10_areApart_63 : decode cX10_areApart 63 = .ok (.goto (-58), 3) := by decide +kernel
theorem dX10_areApart_66 : decode cX10_areApart 66 = .ok (.iload_n 3, 1) := by decide +kernel
theorem dX10_areApart_67 : decode cX10_areApart 67 = .ok (.ireturn, 1) := by decide +kernel
theorem dX10_findHeap_0 : decode cX10_findHeap 0 = .ok (.iconst 0, 1) := by decide +kernel
theorem dX10_findHeap_1 : decode cX10_findHeap 1 = .ok (.istore_n 1, 1) := by decide +kernel
theorem dX10_findHeap_2 : decode cX10_findHeap 2 = .ok (.iconst 0, 1) := by decide +kernel
theorem dX10_findHeap_3 : decode cX10_findHeap 3 = .ok (.istore_n 2, 1) := by decide +kernel
theorem dX10_findHeap_4 : decode cX10_findHeap 4 = .ok (.iload_n 2, 1) := by decide +kernel
theorem dX10_findHeap_5 : decode cX10_findHeap 5 = .ok (.aload_n 0, 1) := by decide +kernel
theorem dX10_findHeap_6 : decode cX10_findHeap 6 = .ok (.getfield 124, 3) := by decide +kernel
theorem dX10_findHeap_9 : decode cX10_findHeap 9 = .ok (.if_icmp .ge 23, 3) := by decide +kernel
theorem dX10_findHeap_12 : decode cX10_findHeap 12 = .ok (.aload_n 0, 1) := by decide +kernel
theorem dX10_findHeap_13 : decode cX10_findHeap 13 = .ok (.iload_n 2, 1) := by decide +kernel
theorem dX10_findHeap_14 : decode cX10_findHeap 14 = .ok (.invokevirtual 152, 3) := by decide +kernel
theorem dX10_findHeap_17 : decode cX10_findHeap 17 = .ok (.ifCond .eq 9, 3) := by decide +kernel
theorem dX10_findHeap_20 : decode cX10_findHeap 20 = .ok (.iload_n 1, 1) := by decide +kernel
theorem dX10_findHeap_21 : decode cX10_findHeap 21 = .ok (.iconst 1, 1) := by decide +kernel
theorem dX10_findHeap_22 : decode cX10_findHeap 22 = .ok (.iload_n 2, 1) := by decide +kernel
theorem dX10_findHeap_23 : decode cX10_findHeap 23 = .ok (.ishl, 1) := by decide +kernel
theorem dX10_findHeap_24 : decode cX10_findHeap 24 = .ok (.ior, 1) := by decide +kernel
theorem dX10_findHeap_25 : decode cX10_findHeap 25 = .ok (.istore_n 1, 1) := by decide +kernel
theorem dX10_findHeap_26 : decode cX10_findHeap 26 = .ok (.iinc 2 1, 3) := by decide +kernel
theorem dX10_findHeap_29 : decode cX10_findHeap 29 = .ok (.goto (-25), 3) := by decide +kernel
theorem dX10_findHeap_32 : decode cX10_findHeap 32 = .ok (.aload_n 0, 1) := by decide +kernel
theorem dX10_findHeap_33 : decode cX10_findHeap 33 = .ok (.iconst 0, 1) := by decide +kernel
theorem dX10_findHeap_34 : decode cX10_findHeap 34 = .ok (.putfield 162, 3) := by decide +kernel
theorem dX10_findHeap_37 : decode cX10_findHeap 37 = .ok (.aload_n 0, 1) := by decide +kernel
theorem dX10_findHeap_38 : decode cX10_findHeap 38 = .ok (.iconst 0, 1) := by decide +kernel
theorem dX10_findHeap_39 : decode cX10_findHeap 39 = .ok (.putfield 165, 3) := by decide +kernel
theorem dX10_findHeap_42 : decode cX10_findHeap 42 = .ok (.iconst 1, 1) := by decide +kernel
theorem dX10_findHeap_43 : decode cX10_findHeap 43 = .ok (.istore_n 2, 1) := by decide +kernel
theorem dX10_findHeap_44 : decode cX10_findHeap 44 = .ok (.iload_n 2, 1) := by decide +kernel
theorem dX10_findHeap_45 : decode cX10_findHeap 45 = .ok (.iconst 1, 1) := by decide +kernel
theorem dX10_findHeap_46 : decode cX10_findHeap 46 = .ok (.aload_n 0, 1) := by decide +kernel
theorem dX10_findHeap_47 : decode cX10_findHeap 47 = .ok (.getfield 124, 3) := by decide +kernel
theorem dX10_findHeap_50 : decode cX10_findHeap 50 = .ok (.ishl, 1) := by decide +kernel
theorem dX10_findHeap_51 : decode cX10_findHeap 51 = .ok (.if_icmp .ge 140, 3) := by decide +kernel
theorem dX10_findHeap_54 : decode cX10_findHeap 54 = .ok (.iload_n 2, 1) := by decide +kernel
theorem dX10_findHeap_55 : decode cX10_findHeap 55 = .ok (.iload_n 1, 1) := by decide +kernel
theorem dX10_findHeap_56 : decode cX10_findHeap 56 = .ok (.iconst (-1), 1) := by decide +kernel
theorem dX10_findHeap_57 : decode cX10_findHeap 57 = .ok (.ixor, 1) := by decide +kernel
theorem dX10_findHeap_58 : decode cX10_findHeap 58 = .ok (.iand, 1) := by decide +kernel
theorem dX10_findHeap_59 : decode cX10_findHeap 59 = .ok (.ifCond .eq 6, 3) := by decide +kernel
theorem dX10_findHeap_62 : decode cX10_findHeap 62 = .ok (.goto 123, 3) := by decide +kernel
theorem dX10_findHeap_65 : decode cX10_findHeap 65 = .ok (.iconst 1, 1) := by decide +kernel
theorem dX10_findHeap_66 : decode cX10_findHeap 66 = .ok (.istore_n 3, 1) := by decide +kernel
theorem dX10_findHeap_67 : decode cX10_findHeap 67 = .ok (.iconst 0, 1) := by decide +kernel
theorem dX10_findHeap_68 : decode cX10_findHeap 68 = .ok (.istore 4, 2) := by decide +kernel
theorem dX10_findHeap_70 : decode cX10_findHeap 70 = .ok (.iconst 0, 1) := by decide +kernel
theorem dX10_findHeap_71 : decode cX10_findHeap 71 = .ok (.istore 5, 2) := by decide +kernel
theorem dX10_findHeap_73 : decode cX10_findHeap 73 = .ok (.iload 5, 2) := by decide +kernel
theorem dX10_findHeap_75 : decode cX10_findHeap 75 = .ok (.aload_n 0, 1) := by decide +kernel
theorem dX10_findHeap_76 : decode cX10_findHeap 76 = .ok (.getfield 124, 3) := by decide +kernel
theorem dX10_findHeap_79 : decode cX10_findHeap 79 = .ok (.if_icmp .ge 79, 3) := by decide +kernel
theorem dX10_findHeap_82 : decode cX10_findHeap 82 = .ok (.iload_n 2, 1) := by decide +kernel
theorem dX10_findHeap_83 : decode cX10_findHeap 83 = .ok (.iload 5, 2) := by decide +kernel
theorem dX10_findHeap_85 : decode cX10_findHeap 85 = .ok (.ishr, 1) := by decide +kernel
theorem dX10_findHeap_86 : decode cX10_findHeap 86 = .ok (.iconst 1, 1) := by decide +kernel
theorem dX10_findHeap_87 : decode cX10_findHeap 87 = .ok (.iand, 1) := by decide +kernel
theorem dX10_findHeap_88 : decode cX10_findHeap 88 = .ok (.ifCond .ne 6, 3) := by decide +kernel
theorem dX10_findHeap_91 : decode cX10_findHeap 91 = .ok (.goto 61, 3) := by decide +kernel
theorem dX10_findHeap_94 : decode cX10_findHeap 94 = .ok (.iload 4, 2) := by decide +kernel
theorem dX10_findHeap_96 : decode cX10_findHeap 96 = .ok (.aload_n 0, 1) := by decide +kernel
theorem dX10_findHeap_97 : decode cX10_findHeap 97 = .ok (.iload 5, 2) := by decide +kernel
theorem dX10_findHeap_99 : decode cX10_findHeap 99 = .ok (.invokevirtual 159, 3) := by decide +kernel
theorem dX10_findHeap_102 : decode cX10_findHeap 102 = .ok (.iadd, 1) := by decide +kernel
theorem dX10_findHeap_103 : decode cX10_findHeap 103 = .ok (.istore 4, 2) := by decide +kernel
theorem dX10_findHeap_105 : decode cX10_findHeap 105 = .ok (.iconst 0, 1) := by decide +kernel
theorem dX10_findHeap_106 : decode cX10_findHeap 106 = .ok (.istore 6, 2) := by decide +kernel
theorem dX10_findHeap_108 : decode cX10_findHeap 108 = .ok (.iload 6, 2) := by decide +kernel
theorem dX10_findHeap_110 : decode cX10_findHeap 110 = .ok (.iload 5, 2) := by decide +kernel
theorem dX10_findHeap_112 : decode cX10_findHeap 112 = .ok (.if_icmp .ge 40, 3) := by decide +kernel
theorem dX10_findHeap_115 : decode cX10_findHeap 115 = .ok (.iload_n 2, 1) := by decide +kernel
theorem dX10_findHeap_116 : decode cX10_findHeap 116 = .ok (.iload 6, 2) := by decide +kernel
theorem dX10_findHeap_118 : decode cX10_findHeap 118 = .ok (.ishr, 1) := by decide +kernel
theorem dX10_findHeap_119 : decode cX10_findHeap 119 = .ok (.iconst 1, 1) := by decide +kernel
theorem dX10_findHeap_120 : decode cX10_findHeap 120 = .ok (.iand, 1) := by decide +kernel
theorem dX10_findHeap_121 : decode cX10_findHeap 121 = .ok (.iconst 1, 1) := by decide +kernel
theorem dX10_findHeap_122 : decode cX10_findHeap 122 = .ok (.if_icmp .ne 24, 3) := by decide +kernel
theorem dX10_findHeap_125 : decode cX10_findHeap 125 = .ok (.iload_n 3, 1) := by decide +kernel
