theorem dL_cell_0 : decode cL_cell 0 = .ok (.aload_n 0, 1) := by decide +kernel
theorem dL_cell_1 : decode cL_cell 1 = .ok (.arraylength, 1) := by decide +kernel
theorem dL_cell_2 : decode cL_cell 2 = .ok (.ifCond .ne 13, 3) := by decide +kernel
theorem dL_cell_5 : decode cL_cell 5 = .ok (.bipush 71, 2) := by decide +kernel
theorem dL_cell_7 : decode cL_cell 7 = .ok (.iload_n 1, 1) := by decide +kernel
theorem dL_cell_8 : decode cL_cell 8 = .ok (.imul, 1) := by decide +kernel
theorem dL_cell_9 : decode cL_cell 9 = .ok (.bipush 13, 2) := by decide +kernel
theorem dL_cell_11 : decode cL_cell 11 = .ok (.iadd, 1) := by decide +kernel
theorem dL_cell_12 : decode cL_cell 12 = .ok (.goto 19, 3) := by decide +kernel
theorem dL_cell_15 : decode cL_cell 15 = .ok (.aload_n 0, 1) := by decide +kernel
theorem dL_cell_16 : decode cL_cell 16 = .ok (.iload_n 1, 1) := by decide +kernel
theorem dL_cell_17 : decode cL_cell 17 = .ok (.aload_n 0, 1) := by decide +kernel
theorem dL_cell_18 : decode cL_cell 18 = .ok (.arraylength, 1) := by decide +kernel
theorem dL_cell_19 : decode cL_cell 19 = .ok (.irem, 1) := by decide +kernel
theorem dL_cell_20 : decode cL_cell 20 = .ok (.iaload, 1) := by decide +kernel
theorem dL_cell_21 : decode cL_cell 21 = .ok (.iconst 5, 1) := by decide +kernel
theorem dL_cell_22 : decode cL_cell 22 = .ok (.iload_n 1, 1) := by decide +kernel
theorem dL_cell_23 : decode cL_cell 23 = .ok (.aload_n 0, 1) := by decide +kernel
theorem dL_cell_24 : decode cL_cell 24 = .ok (.arraylength, 1) := by decide +kernel
theorem dL_cell_25 : decode cL_cell 25 = .ok (.idiv, 1) := by decide +kernel
theorem dL_cell_26 : decode cL_cell 26 = .ok (.imul, 1) := by decide +kernel
theorem dL_cell_27 : decode cL_cell 27 = .ok (.bipush 17, 2) := by decide +kernel
theorem dL_cell_29 : decode cL_cell 29 = .ok (.irem, 1) := by decide +kernel
theorem dL_cell_30 : decode cL_cell 30 = .ok (.iushr, 1) := by decide +kernel
theorem dL_cell_31 : decode cL_cell 31 = .ok (.ireturn, 1) := by decide +kernel
theorem dL_some_0 : decode cL_some 0 = .ok (.aload_n 0, 1) := by decide +kernel
theorem dL_some_1 : decode cL_some 1 = .ok (.bipush 25, 2) := by decide +kernel
theorem dL_some_3 : decode cL_some 3 = .ok (.invokevirtual 23, 3) := by decide +kernel
theorem dL_some_6 : decode cL_some 6 = .ok (.ifCond .ne 7, 3) := by decide +kernel
theorem dL_some_9 : decode cL_some 9 = .ok (.iload_n 1, 1) := by decide +kernel
theorem dL_some_10 : decode cL_some 10 = .ok (.goto 12, 3) := by decide +kernel
theorem dL_some_13 : decode cL_some 13 = .ok (.aload_n 0, 1) := by decide +kernel
theorem dL_some_14 : decode cL_some 14 = .ok (.iconst 1, 1) := by decide +kernel
theorem dL_some_15 : decode cL_some 15 = .ok (.iload_n 1, 1) := by decide +kernel
theorem dL_some_16 : decode cL_some 16 = .ok (.invokestatic 29, 3) := by decide +kernel
theorem dL_some_19 : decode cL_some 19 = .ok (.invokevirtual 23, 3) := by decide +kernel
theorem dL_some_22 : decode cL_some 22 = .ok (.ireturn, 1) := by decide +kernel
theorem dL_anyMood_0 : decode cL_anyMood 0 = .ok (.aload_n 0, 1) := by decide +kernel
theorem dL_anyMood_1 : decode cL_anyMood 1 = .ok (.sipush 256, 3) := by decide +kernel
theorem dL_anyMood_4 : decode cL_anyMood 4 = .ok (.invokevirtual 23, 3) := by decide +kernel
theorem dL_anyMood_7 : decode cL_anyMood 7 = .ok (.bipush 8, 2) := by decide +kernel
theorem dL_anyMood_9 : decode cL_anyMood 9 = .ok (.ishl, 1) := by decide +kernel
theorem dL_anyMood_10 : decode cL_anyMood 10 = .ok (.aload_n 0, 1) := by decide +kernel
theorem dL_anyMood_11 : decode cL_anyMood 11 = .ok (.sipush 256, 3) := by decide +kernel
theorem dL_anyMood_14 : decode cL_anyMood 14 = .ok (.invokevirtual 23, 3) := by decide +kernel
theorem dL_anyMood_17 : decode cL_anyMood 17 = .ok (.ior, 1) := by decide +kernel
theorem dL_anyMood_18 : decode cL_anyMood 18 = .ok (.istore_n 1, 1) := by decide +kernel
theorem dL_anyMood_19 : decode cL_anyMood 19 = .ok (.aload_n 0, 1) := by decide +kernel
theorem dL_anyMood_20 : decode cL_anyMood 20 = .ok (.bipush 20, 2) := by decide +kernel
theorem dL_anyMood_22 : decode cL_anyMood 22 = .ok (.invokevirtual 23, 3) := by decide +kernel
theorem dL_anyMood_25 : decode cL_anyMood 25 = .ok (.ifCond .ne 8, 3) := by decide +kernel
theorem dL_anyMood_28 : decode cL_anyMood 28 = .ok (.ldc 35, 2) := by decide +kernel
theorem dL_anyMood_30 : decode cL_anyMood 30 = .ok (.goto 28, 3) := by decide +kernel
theorem dL_anyMood_33 : decode cL_anyMood 33 = .ok (.aload_n 0, 1) := by decide +kernel
theorem dL_anyMood_34 : decode cL_anyMood 34 = .ok (.iconst 2, 1) := by decide +kernel
theorem dL_anyMood_35 : decode cL_anyMood 35 = .ok (.invokevirtual 23, 3) := by decide +kernel
theorem dL_anyMood_38 : decode cL_anyMood 38 = .ok (.ifCond .ne 19, 3) := by decide +kernel
theorem dL_anyMood_41 : decode cL_anyMood 41 = .ok (.sipush 255, 3) := by decide +kernel
theorem dL_anyMood_44 : decode cL_anyMood 44 = .ok (.aload_n 0, 1) := by decide +kernel
theorem dL_anyMood_45 : decode cL_anyMood 45 = .ok (.bipush 9, 2) := by decide +kernel
theorem dL_anyMood_47 : decode cL_anyMood 47 = .ok (.invokevirtual 23, 3) := by decide +kernel
theorem dL_anyMood_50 : decode cL_anyMood 50 = .ok (.ishl, 1) := by decide +kernel
theorem dL_anyMood_51 : decode cL_anyMood 51 = .ok (.ldc 36, 2) := by decide +kernel
theorem dL_anyMood_53 : decode cL_anyMood 53 = .ok (.iand, 1) := by decide +kernel
theorem dL_anyMood_54 : decode cL_anyMood 54 = .ok (.goto 4, 3) := by decide +kernel
theorem dL_anyMood_57 : decode cL_anyMood 57 = .ok (.iload_n 1, 1) := by decide +kernel
theorem dL_anyMood_58 : decode cL_anyMood 58 = .ok (.ireturn, 1) := by decide +kernel
theorem dL_acts_0 : decode cL_acts 0 = .ok (.aload_n 2, 1) := by decide +kernel
theorem dL_acts_1 : decode cL_acts 1 = .ok (.aload_n 0, 1) := by decide +kernel
theorem dL_acts_2 : decode cL_acts 2 = .ok (.iconst 0, 1) := by decide +kernel
theorem dL_acts_3 : decode cL_acts 3 = .ok (.invokevirtual 37, 3) := by decide +kernel
theorem dL_acts_6 : decode cL_acts 6 = .ok (.invokestatic 40, 3) := by decide +kernel
theorem dL_acts_9 : decode cL_acts 9 = .ok (.istore_n 3, 1) := by decide +kernel
theorem dL_acts_10 : decode cL_acts 10 = .ok (.iload_n 1, 1) := by decide +kernel
theorem dL_acts_11 : decode cL_acts 11 = .ok (.bipush 30, 2) := by decide +kernel
theorem dL_acts_13 : decode cL_acts 13 = .ok (.irem, 1) := by decide +kernel
theorem dL_acts_14 : decode cL_acts 14 = .ok (.tableswitch 235 0 23 #[110, 110, 110, 110, 119, 125, 125, 125, 135, 135, 135, 162, 162, 173, 173, 203, 203, 229, 229, 229, 229, 229, 229, 229], 110) := by decide +kernel
theorem dL_acts_124 : decode cL_acts 124 = .ok (.aload_n 0, 1) := by decide +kernel
theorem dL_acts_125 : decode cL_acts 125 = .ok (.aload_n 2, 1) := by decide +kernel
theorem dL_acts_126 : decode cL_acts 126 = .ok (.invokestatic 46, 3) := by decide +kernel
theorem dL_acts_129 : decode cL_acts 129 = .ok (.invokevirtual 50, 3) := by decide +kernel
theorem dL_acts_132 : decode cL_acts 132 = .ok (.ireturn, 1) := by decide +kernel
theorem dL_acts_133 : decode cL_acts 133 = .ok (.aload_n 0, 1) := by decide +kernel
theorem dL_acts_134 : decode cL_acts 134 = .ok (.iload_n 3, 1) := by decide +kernel
theorem dL_acts_135 : decode cL_acts 135 = .ok (.invokevirtual 53, 3) := by decide +kernel
theorem dL_acts_138 : decode cL_acts 138 = .ok (.ireturn, 1) := by decide +kernel
theorem dL_acts_139 : decode cL_acts 139 = .ok (.aload_n 0, 1) := by decide +kernel
theorem dL_acts_140 : decode cL_acts 140 = .ok (.iload_n 3, 1) := by decide +kernel
theorem dL_acts_141 : decode cL_acts 141 = .ok (.aload_n 2, 1) := by decide +kernel
theorem dL_acts_142 : decode cL_acts 142 = .ok (.invokestatic 46, 3) := by decide +kernel
theorem dL_acts_145 : decode cL_acts 145 = .ok (.invokevirtual 56, 3) := by decide +kernel
theorem dL_acts_148 : decode cL_acts 148 = .ok (.ireturn, 1) := by decide +kernel
theorem dL_acts_149 : decode cL_acts 149 = .ok (.aload_n 0, 1) := by decide +kernel
theorem dL_acts_150 : decode cL_acts 150 = .ok (.iload_n 3, 1) := by decide +kernel
theorem dL_acts_151 : decode cL_acts 151 = .ok (.aload_n 2, 1) := by decide +kernel
theorem dL_acts_152 : decode cL_acts 152 = .ok (.bipush 20, 2) := by decide +kernel
theorem dL_acts_154 : decode cL_acts 154 = .ok (.invokevirtual 23, 3) := by decide +kernel
theorem dL_acts_157 : decode cL_acts 157 = .ok (.ifCond .ne 8, 3) := by decide +kernel
theorem dL_acts_160 : decode cL_acts 160 = .ok (.bipush 10, 2) := by decide +kernel
theorem dL_acts_162 : decode cL_acts 162 = .ok (.goto 10, 3) := by decide +kernel
theorem dL_acts_165 : decode cL_acts 165 = .ok (.iconst 1, 1) := by decide +kernel
theorem dL_acts_166 : decode cL_acts 166 = .ok (.aload_n 2, 1) := by decide +kernel
theorem dL_acts_167 : decode cL_acts 167 = .ok (.iconst 5, 1) := by decide +kernel
theorem dL_acts_168 : decode cL_acts 168 = .ok (.invokevirtual 23, 3) := by decide +kernel
theorem dL_acts_171 : decode cL_acts 171 = .ok (.iadd, 1) := by decide +kernel
theorem dL_acts_172 : decode cL_acts 172 = .ok (.invokevirtual 59, 3) := by decide +kernel
theorem dL_acts_175 : decode cL_acts 175 = .ok (.ireturn, 1) := by decide +kernel
theorem dL_acts_176 : decode cL_acts 176 = .ok (.aload_n 0, 1) := by decide +kernel
theorem dL_acts_177 : decode cL_acts 177 = .ok (.iload_n 3, 1) := by decide +kernel
theorem dL_acts_178 : decode cL_acts 178 = .ok (.aload_n 2, 1) := by decide +kernel
theorem dL_acts_179 : decode cL_acts 179 = .ok (.iconst 4, 1) := by decide +kernel
theorem dL_acts_180 : decode cL_acts 180 = .ok (.invokestatic 40, 3) := by decide +kernel
theorem dL_acts_183 : decode cL_acts 183 = .ok (.invokevirtual 62, 3) := by decide +kernel
theorem dL_acts_186 : decode cL_acts 186 = .ok (.ireturn, 1) := by decide +kernel
theorem dL_acts_187 : decode cL_acts 187 = .ok (.aload_n 0, 1) := by decide +kernel
theorem dL_acts_188 : decode cL_acts 188 = .ok (.aload_n 2, 1) := by decide +kernel
theorem dL_acts_189 : decode cL_acts 189 = .ok (.iconst 4, 1) := by decide +kernel
theorem dL_acts_190 : decode cL_acts 190 = .ok (.invokestatic 40, 3) := by decide +kernel
theorem dL_acts_193 : decode cL_acts 193 = .ok (.aload_n 2, 1) := by decide +kernel
theorem dL_acts_194 : decode cL_acts 194 = .ok (.bipush 20, 2) := by decide +kernel
theorem dL_acts_196 : decode cL_acts 196 = .ok (.invokevirtual 23, 3) := by decide +kernel
theorem dL_acts_199 : decode cL_acts 199 = .ok (.ifCond .ne 8, 3) := by decide +kernel
theorem dL_acts_202 : decode cL_acts 202 = .ok (.bipush 9, 2) := by decide +kernel
theorem dL_acts_204 : decode cL_acts 204 = .ok (.goto 9, 3) := by decide +kernel
theorem dL_acts_207 : decode cL_acts 207 = .ok (.aload_n 2, 1) := by decide +kernel
theorem dL_acts_208 : decode cL_acts 208 = .ok (.bipush 9, 2) := by decide +kernel
theorem dL_acts_210 : decode cL_acts 210 = .ok (.invokevirtual 23, 3) := by decide +kernel
theorem dL_acts_213 : decode cL_acts 213 = .ok (.invokevirtual 65, 3) := by decide +kernel
theorem dL_acts_216 : decode cL_acts 216 = .ok (.ireturn, 1) := by decide +kernel
theorem dL_acts_217 : decode cL_acts 217 = .ok (.aload_n 0, 1) := by decide +kernel
theorem dL_acts_218 : decode cL_acts 218 = .ok (.aload_n 2, 1) := by decide +kernel
theorem dL_acts_219 : decode cL_acts 219 = .ok (.bipush 20, 2) := by decide +kernel
theorem dL_acts_221 : decode cL_acts 221 = .ok (.invokevirtual 23, 3) := by decide +kernel
theorem dL_acts_224 : decode cL_acts 224 = .ok (.ifCond .ne 7, 3) := by decide +kernel
theorem dL_acts_227 : decode cL_acts 227 = .ok (.iconst 4, 1) := by decide +kernel
theorem dL_acts_228 : decode cL_acts 228 = .ok (.goto 11, 3) := by decide +kernel
theorem dL_acts_231 : decode cL_acts 231 = .ok (.aload_n 2, 1) := by decide +kernel
theorem dL_acts_232 : decode cL_acts 232 = .ok (.bipush 7, 2) := by decide +kernel
theorem dL_acts_234 : decode cL_acts 234 = .ok (.invokevirtual 23, 3) := by decide +kernel
theorem dL_acts_237 : decode cL_acts 237 = .ok (.iconst 3, 1) := by decide +kernel
theorem dL_acts_238 : decode cL_acts 238 = .ok (.isub, 1) := by decide +kernel
theorem dL_acts_239 : decode cL_acts 239 = .ok (.invokevirtual 68, 3) := by decide +kernel
theorem dL_acts_242 : decode cL_acts 242 = .ok (.ireturn, 1) := by decide +kernel
theorem dL_acts_243 : decode cL_acts 243 = .ok (.aload_n 0, 1) := by decide +kernel
theorem dL_acts_244 : decode cL_acts 244 = .ok (.iload_n 3, 1) := by decide +kernel
theorem dL_acts_245 : decode cL_acts 245 = .ok (.invokevirtual 71, 3) := by decide +kernel
theorem dL_acts_248 : decode cL_acts 248 = .ok (.ireturn, 1) := by decide +kernel
theorem dL_acts_249 : decode cL_acts 249 = .ok (.aload_n 0, 1) := by decide +kernel
theorem dL_acts_250 : decode cL_acts 250 = .ok (.invokevirtual 74, 3) := by decide +kernel
theorem dL_acts_253 : decode cL_acts 253 = .ok (.ireturn, 1) := by decide +kernel
theorem dL_line_0 : decode cL_line 0 = .ok (.new 77, 3) := by decide +kernel
theorem dL_line_3 : decode cL_line 3 = .ok (.dup, 1) := by decide +kernel
theorem dL_line_4 : decode cL_line 4 = .ok (.invokespecial 79, 3) := by decide +kernel
theorem dL_line_7 : decode cL_line 7 = .ok (.astore_n 2, 1) := by decide +kernel
theorem dL_line_8 : decode cL_line 8 = .ok (.iconst 0, 1) := by decide +kernel
theorem dL_line_9 : decode cL_line 9 = .ok (.istore_n 3, 1) := by decide +kernel
theorem dL_line_10 : decode cL_line 10 = .ok (.iload_n 3, 1) := by decide +kernel
theorem dL_line_11 : decode cL_line 11 = .ok (.iload_n 1, 1) := by decide +kernel
theorem dL_line_12 : decode cL_line 12 = .ok (.if_icmp .ge 20, 3) := by decide +kernel
theorem dL_line_15 : decode cL_line 15 = .ok (.aload_n 2, 1) := by decide +kernel
theorem dL_line_16 : decode cL_line 16 = .ok (.aload_n 0, 1) := by decide +kernel
theorem dL_line_17 : decode cL_line 17 = .ok (.iload_n 3, 1) := by decide +kernel
theorem dL_line_18 : decode cL_line 18 = .ok (.invokevirtual 80, 3) := by decide +kernel
theorem dL_line_21 : decode cL_line 21 = .ok (.i2c, 1) := by decide +kernel
theorem dL_line_22 : decode cL_line 22 = .ok (.invokevirtual 83, 3) := by decide +kernel
theorem dL_line_25 : decode cL_line 25 = .ok (.pop, 1) := by decide +kernel
theorem dL_line_26 : decode cL_line 26 = .ok (.iinc 3 1, 3) := by decide +kernel
theorem dL_line_29 : decode cL_line 29 = .ok (.goto (-19), 3) := by decide +kernel
theorem dL_line_32 : decode cL_line 32 = .ok (.aload_n 2, 1) := by decide +kernel
theorem dL_line_33 : decode cL_line 33 = .ok (.invokevirtual 86, 3) := by decide +kernel
theorem dL_line_36 : decode cL_line 36 = .ok (.areturn, 1) := by decide +kernel
theorem dL_told_0 : decode cL_told 0 = .ok (.new 77, 3) := by decide +kernel
theorem dL_told_3 : decode cL_told 3 = .ok (.dup, 1) := by decide +kernel
theorem dL_told_4 : decode cL_told 4 = .ok (.invokespecial 79, 3) := by decide +kernel
theorem dL_told_7 : decode cL_told 7 = .ok (.astore_n 1, 1) := by decide +kernel
theorem dL_told_8 : decode cL_told 8 = .ok (.iconst 0, 1) := by decide +kernel
theorem dL_told_9 : decode cL_told 9 = .ok (.istore_n 2, 1) := by decide +kernel
theorem dL_told_10 : decode cL_told 10 = .ok (.iload_n 2, 1) := by decide +kernel
theorem dL_told_11 : decode cL_told 11 = .ok (.bipush 9, 2) := by decide +kernel
theorem dL_told_13 : decode cL_told 13 = .ok (.if_icmp .ge 24, 3) := by decide +kernel
theorem dL_told_16 : decode cL_told 16 = .ok (.aload_n 1, 1) := by decide +kernel
theorem dL_told_17 : decode cL_told 17 = .ok (.aload_n 0, 1) := by decide +kernel
theorem dL_told_18 : decode cL_told 18 = .ok (.iload_n 2, 1) := by decide +kernel
theorem dL_told_19 : decode cL_told 19 = .ok (.invokevirtual 37, 3) := by decide +kernel
theorem dL_told_22 : decode cL_told 22 = .ok (.invokevirtual 90, 3) := by decide +kernel
theorem dL_told_25 : decode cL_told 25 = .ok (.bipush 44, 2) := by decide +kernel
theorem dL_told_27 : decode cL_told 27 = .ok (.invokevirtual 83, 3) := by decide +kernel
theorem dL_told_30 : decode cL_told 30 = .ok (.pop, 1) := by decide +kernel
theorem dL_told_31 : decode cL_told 31 = .ok (.iinc 2 1, 3) := by decide +kernel
theorem dL_told_34 : decode cL_told 34 = .ok (.goto (-24), 3) := by decide +kernel
theorem dL_told_37 : decode cL_told 37 = .ok (.iconst 0, 1) := by decide +kernel
theorem dL_told_38 : decode cL_told 38 = .ok (.istore_n 2, 1) := by decide +kernel
theorem dL_told_39 : decode cL_told 39 = .ok (.iload_n 2, 1) := by decide +kernel
theorem dL_told_40 : decode cL_told 40 = .ok (.aload_n 0, 1) := by decide +kernel
theorem dL_told_41 : decode cL_told 41 = .ok (.iconst 0, 1) := by decide +kernel
theorem dL_told_42 : decode cL_told 42 = .ok (.invokevirtual 37, 3) := by decide +kernel
theorem dL_told_45 : decode cL_told 45 = .ok (.if_icmp .ge 28, 3) := by decide +kernel
theorem dL_told_48 : decode cL_told 48 = .ok (.aload_n 1, 1) := by decide +kernel
theorem dL_told_49 : decode cL_told 49 = .ok (.aload_n 0, 1) := by decide +kernel
theorem dL_told_50 : decode cL_told 50 = .ok (.aload_n 0, 1) := by decide +kernel
theorem dL_told_51 : decode cL_told 51 = .ok (.iload_n 2, 1) := by decide +kernel
theorem dL_told_52 : decode cL_told 52 = .ok (.invokevirtual 93, 3) := by decide +kernel
theorem dL_told_55 : decode cL_told 55 = .ok (.invokestatic 96, 3) := by decide +kernel
theorem dL_told_58 : decode cL_told 58 = .ok (.invokevirtual 100, 3) := by decide +kernel
theorem dL_told_61 : decode cL_told 61 = .ok (.bipush 59, 2) := by decide +kernel
theorem dL_told_63 : decode cL_told 63 = .ok (.invokevirtual 83, 3) := by decide +kernel
theorem dL_told_66 : decode cL_told 66 = .ok (.pop, 1) := by decide +kernel
theorem dL_told_67 : decode cL_told 67 = .ok (.iinc 2 1, 3) := by decide +kernel
theorem dL_told_70 : decode cL_told 70 = .ok (.goto (-31), 3) := by decide +kernel
theorem dL_told_73 : decode cL_told 73 = .ok (.iconst 0, 1) := by decide +kernel
theorem dL_told_74 : decode cL_told 74 = .ok (.istore_n 2, 1) := by decide +kernel
theorem dL_told_75 : decode cL_told 75 = .ok (.iload_n 2, 1) := by decide +kernel
theorem dL_told_76 : decode cL_told 76 = .ok (.iconst 4, 1) := by decide +kernel
theorem dL_told_77 : decode cL_told 77 = .ok (.if_icmp .ge 25, 3) := by decide +kernel
theorem dL_told_80 : decode cL_told 80 = .ok (.aload_n 1, 1) := by decide +kernel
theorem dL_told_81 : decode cL_told 81 = .ok (.aload_n 0, 1) := by decide +kernel
theorem dL_told_82 : decode cL_told 82 = .ok (.iload_n 2, 1) := by decide +kernel
theorem dL_told_83 : decode cL_told 83 = .ok (.iconst 0, 1) := by decide +kernel
theorem dL_told_84 : decode cL_told 84 = .ok (.invokevirtual 103, 3) := by decide +kernel
theorem dL_told_87 : decode cL_told 87 = .ok (.invokevirtual 90, 3) := by decide +kernel
theorem dL_told_90 : decode cL_told 90 = .ok (.bipush 44, 2) := by decide +kernel
theorem dL_told_92 : decode cL_told 92 = .ok (.invokevirtual 83, 3) := by decide +kernel
theorem dL_told_95 : decode cL_told 95 = .ok (.pop, 1) := by decide +kernel
theorem dL_told_96 : decode cL_told 96 = .ok (.iinc 2 1, 3) := by decide +kernel
theorem dL_told_99 : decode cL_told 99 = .ok (.goto (-24), 3) := by decide +kernel
theorem dL_told_102 : decode cL_told 102 = .ok (.iconst 0, 1) := by decide +kernel
theorem dL_told_103 : decode cL_told 103 = .ok (.istore_n 2, 1) := by decide +kernel
theorem dL_told_104 : decode cL_told 104 = .ok (.iload_n 2, 1) := by decide +kernel
theorem dL_told_105 : decode cL_told 105 = .ok (.aload_n 0, 1) := by decide +kernel
theorem dL_told_106 : decode cL_told 106 = .ok (.iconst 3, 1) := by decide +kernel
theorem dL_told_107 : decode cL_told 107 = .ok (.invokevirtual 37, 3) := by decide +kernel
theorem dL_told_110 : decode cL_told 110 = .ok (.if_icmp .ge 53, 3) := by decide +kernel
theorem dL_told_113 : decode cL_told 113 = .ok (.aload_n 1, 1) := by decide +kernel
theorem dL_told_114 : decode cL_told 114 = .ok (.aload_n 0, 1) := by decide +kernel
theorem dL_told_115 : decode cL_told 115 = .ok (.iload_n 2, 1) := by decide +kernel
theorem dL_told_116 : decode cL_told 116 = .ok (.iconst 0, 1) := by decide +kernel
theorem dL_told_117 : decode cL_told 117 = .ok (.invokevirtual 106, 3) := by decide +kernel
theorem dL_told_120 : decode cL_told 120 = .ok (.invokevirtual 90, 3) := by decide +kernel
theorem dL_told_123 : decode cL_told 123 = .ok (.bipush 44, 2) := by decide +kernel
theorem dL_told_125 : decode cL_told 125 = .ok (.invokevirtual 83, 3) := by decide +kernel
theorem dL_told_128 : decode cL_told 128 = .ok (.aload_n 0, 1) := by decide +kernel
theorem dL_told_129 : decode cL_told 129 = .ok (.iload_n 2, 1) := by decide +kernel
theorem dL_told_130 : decode cL_told 130 = .ok (.iconst 1, 1) := by decide +kernel
theorem dL_told_131 : decode cL_told 131 = .ok (.invokevirtual 106, 3) := by decide +kernel
theorem dL_told_134 : decode cL_told 134 = .ok (.invokevirtual 90, 3) := by decide +kernel
theorem dL_told_137 : decode cL_told 137 = .ok (.bipush 44, 2) := by decide +kernel
theorem dL_told_139 : decode cL_told 139 = .ok (.invokevirtual 83, 3) := by decide +kernel
theorem dL_told_142 : decode cL_told 142 = .ok (.aload_n 0, 1) := by decide +kernel
theorem dL_told_143 : decode cL_told 143 = .ok (.iload_n 2, 1) := by decide +kernel
theorem dL_told_144 : decode cL_told 144 = .ok (.iconst 2, 1) := by decide +kernel
theorem dL_told_145 : decode cL_told 145 = .ok (.invokevirtual 106, 3) := by decide +kernel
theorem dL_told_148 : decode cL_told 148 = .ok (.invokevirtual 90, 3) := by decide +kernel
theorem dL_told_151 : decode cL_told 151 = .ok (.bipush 59, 2) := by decide +kernel
theorem dL_told_153 : decode cL_told 153 = .ok (.invokevirtual 83, 3) := by decide +kernel
theorem dL_told_156 : decode cL_told 156 = .ok (.pop, 1) := by decide +kernel
theorem dL_told_157 : decode cL_told 157 = .ok (.iinc 2 1, 3) := by decide +kernel
theorem dL_told_160 : decode cL_told 160 = .ok (.goto (-56), 3) := by decide +kernel
theorem dL_told_163 : decode cL_told 163 = .ok (.aload_n 1, 1) := by decide +kernel
theorem dL_told_164 : decode cL_told 164 = .ok (.invokevirtual 86, 3) := by decide +kernel
theorem dL_told_167 : decode cL_told 167 = .ok (.areturn, 1) := by decide +kernel
theorem dL_stock_0 : decode cL_stock 0 = .ok (.aload_n 0, 1) := by decide +kernel
theorem dL_stock_1 : decode cL_stock 1 = .ok (.sipush 255, 3) := by decide +kernel
theorem dL_stock_4 : decode cL_stock 4 = .ok (.invokevirtual 50, 3) := by decide +kernel
theorem dL_stock_7 : decode cL_stock 7 = .ok (.aload_n 0, 1) := by decide +kernel
theorem dL_stock_8 : decode cL_stock 8 = .ok (.sipush 511, 3) := by decide +kernel
theorem dL_stock_11 : decode cL_stock 11 = .ok (.invokevirtual 50, 3) := by decide +kernel
theorem dL_stock_14 : decode cL_stock 14 = .ok (.iadd, 1) := by decide +kernel
theorem dL_stock_15 : decode cL_stock 15 = .ok (.aload_n 0, 1) := by decide +kernel
theorem dL_stock_16 : decode cL_stock 16 = .ok (.ldc 109, 2) := by decide +kernel
theorem dL_stock_18 : decode cL_stock 18 = .ok (.invokevirtual 50, 3) := by decide +kernel
theorem dL_stock_21 : decode cL_stock 21 = .ok (.iadd, 1) := by decide +kernel
theorem dL_stock_22 : decode cL_stock 22 = .ok (.aload_n 0, 1) := by decide +kernel
theorem dL_stock_23 : decode cL_stock 23 = .ok (.iconst 0, 1) := by decide +kernel
theorem dL_stock_24 : decode cL_stock 24 = .ok (.iconst 5, 1) := by decide +kernel
theorem dL_stock_25 : decode cL_stock 25 = .ok (.invokevirtual 59, 3) := by decide +kernel
theorem dL_stock_28 : decode cL_stock 28 = .ok (.iadd, 1) := by decide +kernel
theorem dL_stock_29 : decode cL_stock 29 = .ok (.aload_n 0, 1) := by decide +kernel
theorem dL_stock_30 : decode cL_stock 30 = .ok (.iconst 1, 1) := by decide +kernel
theorem dL_stock_31 : decode cL_stock 31 = .ok (.iconst 3, 1) := by decide +kernel
theorem dL_stock_32 : decode cL_stock 32 = .ok (.invokevirtual 62, 3) := by decide +kernel
theorem dL_stock_35 : decode cL_stock 35 = .ok (.iadd, 1) := by decide +kernel
theorem dL_stock_36 : decode cL_stock 36 = .ok (.aload_n 0, 1) := by decide +kernel
theorem dL_stock_37 : decode cL_stock 37 = .ok (.iconst 3, 1) := by decide +kernel
theorem dL_stock_38 : decode cL_stock 38 = .ok (.bipush 7, 2) := by decide +kernel
theorem dL_stock_40 : decode cL_stock 40 = .ok (.invokevirtual 65, 3) := by decide +kernel
theorem dL_stock_43 : decode cL_stock 43 = .ok (.iadd, 1) := by decide +kernel
theorem dL_stock_44 : decode cL_stock 44 = .ok (.istore_n 1, 1) := by decide +kernel
theorem dL_stock_45 : decode cL_stock 45 = .ok (.iload_n 1, 1) := by decide +kernel
theorem dL_stock_46 : decode cL_stock 46 = .ok (.aload_n 0, 1) := by decide +kernel
theorem dL_stock_47 : decode cL_stock 47 = .ok (.iconst 0, 1) := by decide +kernel
theorem dL_stock_48 : decode cL_stock 48 = .ok (.invokevirtual 71, 3) := by decide +kernel
theorem dL_stock_51 : decode cL_stock 51 = .ok (.iadd, 1) := by decide +kernel
theorem dL_stock_52 : decode cL_stock 52 = .ok (.aload_n 0, 1) := by decide +kernel
theorem dL_stock_53 : decode cL_stock 53 = .ok (.iconst 1, 1) := by decide +kernel
theorem dL_stock_54 : decode cL_stock 54 = .ok (.invokevirtual 71, 3) := by decide +kernel
theorem dL_stock_57 : decode cL_stock 57 = .ok (.iadd, 1) := by decide +kernel
theorem dL_stock_58 : decode cL_stock 58 = .ok (.aload_n 0, 1) := by decide +kernel
theorem dL_stock_59 : decode cL_stock 59 = .ok (.invokevirtual 74, 3) := by decide +kernel
theorem dL_stock_62 : decode cL_stock 62 = .ok (.iadd, 1) := by decide +kernel
theorem dL_stock_63 : decode cL_stock 63 = .ok (.aload_n 0, 1) := by decide +kernel
theorem dL_stock_64 : decode cL_stock 64 = .ok (.iconst 0, 1) := by decide +kernel
theorem dL_stock_65 : decode cL_stock 65 = .ok (.invokevirtual 71, 3) := by decide +kernel
theorem dL_stock_68 : decode cL_stock 68 = .ok (.iadd, 1) := by decide +kernel
theorem dL_stock_69 : decode cL_stock 69 = .ok (.aload_n 0, 1) := by decide +kernel
theorem dL_stock_70 : decode cL_stock 70 = .ok (.iconst 1, 1) := by decide +kernel
theorem dL_stock_71 : decode cL_stock 71 = .ok (.invokevirtual 71, 3) := by decide +kernel
theorem dL_stock_74 : decode cL_stock 74 = .ok (.iadd, 1) := by decide +kernel
theorem dL_stock_75 : decode cL_stock 75 = .ok (.aload_n 0, 1) := by decide +kernel
theorem dL_stock_76 : decode cL_stock 76 = .ok (.iconst 2, 1) := by decide +kernel
theorem dL_stock_77 : decode cL_stock 77 = .ok (.invokevirtual 68, 3) := by decide +kernel
theorem dL_stock_80 : decode cL_stock 80 = .ok (.iadd, 1) := by decide +kernel
theorem dL_stock_81 : decode cL_stock 81 = .ok (.aload_n 0, 1) := by decide +kernel
theorem dL_stock_82 : decode cL_stock 82 = .ok (.iconst 2, 1) := by decide +kernel
theorem dL_stock_83 : decode cL_stock 83 = .ok (.invokevirtual 71, 3) := by decide +kernel
theorem dL_stock_86 : decode cL_stock 86 = .ok (.iadd, 1) := by decide +kernel
theorem dL_stock_87 : decode cL_stock 87 = .ok (.ireturn, 1) := by decide +kernel
theorem dL_sailors_0 : decode cL_sailors 0 = .ok (.aload_n 0, 1) := by decide +kernel
theorem dL_sailors_1 : decode cL_sailors 1 = .ok (.iconst 0, 1) := by decide +kernel
theorem dL_sailors_2 : decode cL_sailors 2 = .ok (.invokevirtual 37, 3) := by decide +kernel
theorem dL_sailors_5 : decode cL_sailors 5 = .ok (.istore_n 1, 1) := by decide +kernel
theorem dL_sailors_6 : decode cL_sailors 6 = .ok (.iconst 0, 1) := by decide +kernel
theorem dL_sailors_7 : decode cL_sailors 7 = .ok (.istore_n 2, 1) := by decide +kernel
theorem dL_sailors_8 : decode cL_sailors 8 = .ok (.iconst 0, 1) := by decide +kernel
theorem dL_sailors_9 : decode cL_sailors 9 = .ok (.istore_n 3, 1) := by decide +kernel
theorem dL_sailors_10 : decode cL_sailors 10 = .ok (.iconst (-1), 1) := by decide +kernel
theorem dL_sailors_11 : decode cL_sailors 11 = .ok (.istore 4, 2) := by decide +kernel
theorem dL_sailors_13 : decode cL_sailors 13 = .ok (.lconst 0, 1) := by decide +kernel
theorem dL_sailors_14 : decode cL_sailors 14 = .ok (.lstore 5, 2) := by decide +kernel
theorem dL_sailors_16 : decode cL_sailors 16 = .ok (.iconst 0, 1) := by decide +kernel
theorem dL_sailors_17 : decode cL_sailors 17 = .ok (.istore 7, 2) := by decide +kernel
theorem dL_sailors_19 : decode cL_sailors 19 = .ok (.iload 7, 2) := by decide +kernel
theorem dL_sailors_21 : decode cL_sailors 21 = .ok (.iload_n 1, 1) := by decide +kernel
theorem dL_sailors_22 : decode cL_sailors 22 = .ok (.if_icmp .ge 395, 3) := by decide +kernel
theorem dL_sailors_25 : decode cL_sailors 25 = .ok (.aload_n 0, 1) := by decide +kernel
theorem dL_sailors_26 : decode cL_sailors 26 = .ok (.iload 7, 2) := by decide +kernel
theorem dL_sailors_28 : decode cL_sailors 28 = .ok (.iconst 0, 1) := by decide +kernel
theorem dL_sailors_29 : decode cL_sailors 29 = .ok (.invokevirtual 110, 3) := by decide +kernel
theorem dL_sailors_32 : decode cL_sailors 32 = .ok (.istore 8, 2) := by decide +kernel
theorem dL_sailors_34 : decode cL_sailors 34 = .ok (.iload 8, 2) := by decide +kernel
theorem dL_sailors_36 : decode cL_sailors 36 = .ok (.sipush 255, 3) := by decide +kernel
theorem dL_sailors_39 : decode cL_sailors 39 = .ok (.iand, 1) := by decide +kernel
theorem dL_sailors_40 : decode cL_sailors 40 = .ok (.invokestatic 113, 3) := by decide +kernel
theorem dL_sailors_43 : decode cL_sailors 43 = .ok (.istore 9, 2) := by decide +kernel
theorem dL_sailors_45 : decode cL_sailors 45 = .ok (.iload 8, 2) := by decide +kernel
theorem dL_sailors_47 : decode cL_sailors 47 = .ok (.bipush 8, 2) := by decide +kernel
theorem dL_sailors_49 : decode cL_sailors 49 = .ok (.ishr, 1) := by decide +kernel
theorem dL_sailors_50 : decode cL_sailors 50 = .ok (.invokestatic 113, 3) := by decide +kernel
theorem dL_sailors_53 : decode cL_sailors 53 = .ok (.istore 10, 2) := by decide +kernel
theorem dL_sailors_55 : decode cL_sailors 55 = .ok (.iload 9, 2) := by decide +kernel
theorem dL_sailors_57 : decode cL_sailors 57 = .ok (.aload_n 0, 1) := by decide +kernel
theorem dL_sailors_58 : decode cL_sailors 58 = .ok (.iload 7, 2) := by decide +kernel
theorem dL_sailors_60 : decode cL_sailors 60 = .ok (.iconst 1, 1) := by decide +kernel
theorem dL_sailors_61 : decode cL_sailors 61 = .ok (.invokevirtual 110, 3) := by decide +kernel
theorem dL_sailors_64 : decode cL_sailors 64 = .ok (.iadd, 1) := by decide +kernel
theorem dL_sailors_65 : decode cL_sailors 65 = .ok (.iload 10, 2) := by decide +kernel
theorem dL_sailors_67 : decode cL_sailors 67 = .ok (.isub, 1) := by decide +kernel
theorem dL_sailors_68 : decode cL_sailors 68 = .ok (.aload_n 0, 1) := by decide +kernel
theorem dL_sailors_69 : decode cL_sailors 69 = .ok (.aload_n 0, 1) := by decide +kernel
theorem dL_sailors_70 : decode cL_sailors 70 = .ok (.iload 7, 2) := by decide +kernel
theorem dL_sailors_72 : decode cL_sailors 72 = .ok (.iconst 2, 1) := by decide +kernel
theorem dL_sailors_73 : decode cL_sailors 73 = .ok (.invokevirtual 110, 3) := by decide +kernel
theorem dL_sailors_76 : decode cL_sailors 76 = .ok (.iconst 0, 1) := by decide +kernel
theorem dL_sailors_77 : decode cL_sailors 77 = .ok (.invokevirtual 103, 3) := by decide +kernel
theorem dL_sailors_80 : decode cL_sailors 80 = .ok (.isub, 1) := by decide +kernel
theorem dL_sailors_81 : decode cL_sailors 81 = .ok (.istore 11, 2) := by decide +kernel
theorem dL_sailors_83 : decode cL_sailors 83 = .ok (.iload 11, 2) := by decide +kernel
theorem dL_sailors_85 : decode cL_sailors 85 = .ok (.aload_n 0, 1) := by decide +kernel
theorem dL_sailors_86 : decode cL_sailors 86 = .ok (.iconst 2, 1) := by decide +kernel
theorem dL_sailors_87 : decode cL_sailors 87 = .ok (.invokevirtual 37, 3) := by decide +kernel
theorem dL_sailors_90 : decode cL_sailors 90 = .ok (.iadd, 1) := by decide +kernel
theorem dL_sailors_91 : decode cL_sailors 91 = .ok (.i2f, 1) := by decide +kernel
theorem dL_sailors_92 : decode cL_sailors 92 = .ok (.ldc 118, 2) := by decide +kernel
theorem dL_sailors_94 : decode cL_sailors 94 = .ok (.fdiv, 1) := by decide +kernel
theorem dL_sailors_95 : decode cL_sailors 95 = .ok (.aload_n 0, 1) := by decide +kernel
theorem dL_sailors_96 : decode cL_sailors 96 = .ok (.iload 7, 2) := by decide +kernel
theorem dL_sailors_98 : decode cL_sailors 98 = .ok (.iconst 1, 1) := by decide +kernel
theorem dL_sailors_99 : decode cL_sailors 99 = .ok (.invokevirtual 110, 3) := by decide +kernel
theorem dL_sailors_102 : decode cL_sailors 102 = .ok (.i2f, 1) := by decide +kernel
theorem dL_sailors_103 : decode cL_sailors 103 = .ok (.ldc 119, 2) := by decide +kernel
theorem dL_sailors_105 : decode cL_sailors 105 = .ok (.fdiv, 1) := by decide +kernel
theorem dL_sailors_106 : decode cL_sailors 106 = .ok (.fsub, 1) := by decide +kernel
theorem dL_sailors_107 : decode cL_sailors 107 = .ok (.fstore 12, 2) := by decide +kernel
theorem dL_sailors_109 : decode cL_sailors 109 = .ok (.new 77, 3) := by decide +kernel
theorem dL_sailors_112 : decode cL_sailors 112 = .ok (.dup, 1) := by decide +kernel
theorem dL_sailors_113 : decode cL_sailors 113 = .ok (.ldc 35, 2) := by decide +kernel
theorem dL_sailors_115 : decode cL_sailors 115 = .ok (.iload 8, 2) := by decide +kernel
theorem dL_sailors_117 : decode cL_sailors 117 = .ok (.iadd, 1) := by decide +kernel
theorem dL_sailors_118 : decode cL_sailors 118 = .ok (.invokestatic 120, 3) := by decide +kernel
theorem dL_sailors_121 : decode cL_sailors 121 = .ok (.iconst 1, 1) := by decide +kernel
theorem dL_sailors_122 : decode cL_sailors 122 = .ok (.invokevirtual 124, 3) := by decide +kernel
theorem dL_sailors_125 : decode cL_sailors 125 = .ok (.invokespecial 127, 3) := by decide +kernel
theorem dL_sailors_128 : decode cL_sailors 128 = .ok (.aload_n 0, 1) := by decide +kernel
theorem dL_sailors_129 : decode cL_sailors 129 = .ok (.iload 7, 2) := by decide +kernel
theorem dL_sailors_131 : decode cL_sailors 131 = .ok (.iconst 1, 1) := by decide +kernel
theorem dL_sailors_132 : decode cL_sailors 132 = .ok (.invokevirtual 110, 3) := by decide +kernel
theorem dL_sailors_135 : decode cL_sailors 135 = .ok (.ifCond .le 31, 3) := by decide +kernel
theorem dL_sailors_138 : decode cL_sailors 138 = .ok (.new 77, 3) := by decide +kernel
theorem dL_sailors_141 : decode cL_sailors 141 = .ok (.dup, 1) := by decide +kernel
theorem dL_sailors_142 : decode cL_sailors 142 = .ok (.invokespecial 79, 3) := by decide +kernel
theorem dL_sailors_145 : decode cL_sailors 145 = .ok (.ldc 130, 2) := by decide +kernel
theorem dL_sailors_147 : decode cL_sailors 147 = .ok (.invokevirtual 100, 3) := by decide +kernel
theorem dL_sailors_150 : decode cL_sailors 150 = .ok (.aload_n 0, 1) := by decide +kernel
theorem dL_sailors_151 : decode cL_sailors 151 = .ok (.iload 7, 2) := by decide +kernel
theorem dL_sailors_153 : decode cL_sailors 153 = .ok (.iconst 1, 1) := by decide +kernel
theorem dL_sailors_154 : decode cL_sailors 154 = .ok (.invokevirtual 110, 3) := by decide +kernel
theorem dL_sailors_157 : decode cL_sailors 157 = .ok (.invokevirtual 90, 3) := by decide +kernel
theorem dL_sailors_160 : decode cL_sailors 160 = .ok (.invokevirtual 86, 3) := by decide +kernel
theorem dL_sailors_163 : decode cL_sailors 163 = .ok (.goto 5, 3) := by decide +kernel
theorem dL_sailors_166 : decode cL_sailors 166 = .ok (.ldc 132, 2) := by decide +kernel
theorem dL_sailors_168 : decode cL_sailors 168 = .ok (.invokevirtual 100, 3) := by decide +kernel
theorem dL_sailors_171 : decode cL_sailors 171 = .ok (.astore 13, 2) := by decide +kernel
theorem dL_sailors_173 : decode cL_sailors 173 = .ok (.aload 13, 2) := by decide +kernel
theorem dL_sailors_175 : decode cL_sailors 175 = .ok (.bipush 64, 2) := by decide +kernel
theorem dL_sailors_177 : decode cL_sailors 177 = .ok (.invokevirtual 83, 3) := by decide +kernel
theorem dL_sailors_180 : decode cL_sailors 180 = .ok (.aload_n 0, 1) := by decide +kernel
theorem dL_sailors_181 : decode cL_sailors 181 = .ok (.iload 7, 2) := by decide +kernel
theorem dL_sailors_183 : decode cL_sailors 183 = .ok (.iconst 2, 1) := by decide +kernel
theorem dL_sailors_184 : decode cL_sailors 184 = .ok (.invokevirtual 110, 3) := by decide +kernel
theorem dL_sailors_187 : decode cL_sailors 187 = .ok (.invokevirtual 90, 3) := by decide +kernel
theorem dL_sailors_190 : decode cL_sailors 190 = .ok (.bipush 62, 2) := by decide +kernel
theorem dL_sailors_192 : decode cL_sailors 192 = .ok (.invokevirtual 83, 3) := by decide +kernel
theorem dL_sailors_195 : decode cL_sailors 195 = .ok (.iload 11, 2) := by decide +kernel
theorem dL_sailors_197 : decode cL_sailors 197 = .ok (.invokevirtual 90, 3) := by decide +kernel
theorem dL_sailors_200 : decode cL_sailors 200 = .ok (.pop, 1) := by decide +kernel
theorem dL_sailors_201 : decode cL_sailors 201 = .ok (.iload_n 2, 1) := by decide +kernel
theorem dL_sailors_202 : decode cL_sailors 202 = .ok (.aload_n 0, 1) := by decide +kernel
theorem dL_sailors_203 : decode cL_sailors 203 = .ok (.iload 7, 2) := by decide +kernel
theorem dL_sailors_205 : decode cL_sailors 205 = .ok (.iconst 1, 1) := by decide +kernel
theorem dL_sailors_206 : decode cL_sailors 206 = .ok (.invokevirtual 110, 3) := by decide +kernel
theorem dL_sailors_209 : decode cL_sailors 209 = .ok (.iadd, 1) := by decide +kernel
theorem dL_sailors_210 : decode cL_sailors 210 = .ok (.istore_n 2, 1) := by decide +kernel
theorem dL_sailors_211 : decode cL_sailors 211 = .ok (.iload_n 3, 1) := by decide +kernel
theorem dL_sailors_212 : decode cL_sailors 212 = .ok (.iload 11, 2) := by decide +kernel
theorem dL_sailors_214 : decode cL_sailors 214 = .ok (.iadd, 1) := by decide +kernel
theorem dL_sailors_215 : decode cL_sailors 215 = .ok (.istore_n 3, 1) := by decide +kernel
theorem dL_sailors_216 : decode cL_sailors 216 = .ok (.lload 5, 2) := by decide +kernel
theorem dL_sailors_218 : decode cL_sailors 218 = .ok (.iload 7, 2) := by decide +kernel
theorem dL_sailors_220 : decode cL_sailors 220 = .ok (.iconst 4, 1) := by decide +kernel
theorem dL_sailors_221 : decode cL_sailors 221 = .ok (.if_icmp .ge 15, 3) := by decide +kernel
theorem dL_sailors_224 : decode cL_sailors 224 = .ok (.iload 8, 2) := by decide +kernel
theorem dL_sailors_226 : decode cL_sailors 226 = .ok (.i2l, 1) := by decide +kernel
theorem dL_sailors_227 : decode cL_sailors 227 = .ok (.bipush 16, 2) := by decide +kernel
theorem dL_sailors_229 : decode cL_sailors 229 = .ok (.iload 7, 2) := by decide +kernel
theorem dL_sailors_231 : decode cL_sailors 231 = .ok (.imul, 1) := by decide +kernel
theorem dL_sailors_232 : decode cL_sailors 232 = .ok (.lshl, 1) := by decide +kernel
theorem dL_sailors_233 : decode cL_sailors 233 = .ok (.goto 4, 3) := by decide +kernel
theorem dL_sailors_236 : decode cL_sailors 236 = .ok (.lconst 0, 1) := by decide +kernel
theorem dL_sailors_237 : decode cL_sailors 237 = .ok (.lor, 1) := by decide +kernel
theorem dL_sailors_238 : decode cL_sailors 238 = .ok (.lstore 5, 2) := by decide +kernel
theorem dL_sailors_240 : decode cL_sailors 240 = .ok (.aload_n 0, 1) := by decide +kernel
theorem dL_sailors_241 : decode cL_sailors 241 = .ok (.iload 7, 2) := by decide +kernel
theorem dL_sailors_243 : decode cL_sailors 243 = .ok (.invokevirtual 134, 3) := by decide +kernel
theorem dL_sailors_246 : decode cL_sailors 246 = .ok (.istore 14, 2) := by decide +kernel
theorem dL_sailors_248 : decode cL_sailors 248 = .ok (.iload 4, 2) := by decide +kernel
theorem dL_sailors_250 : decode cL_sailors 250 = .ok (.ifCond .ge 7, 3) := by decide +kernel
theorem dL_sailors_253 : decode cL_sailors 253 = .ok (.iconst 1, 1) := by decide +kernel
theorem dL_sailors_254 : decode cL_sailors 254 = .ok (.goto 18, 3) := by decide +kernel
theorem dL_sailors_257 : decode cL_sailors 257 = .ok (.aload_n 0, 1) := by decide +kernel
theorem dL_sailors_258 : decode cL_sailors 258 = .ok (.iload 4, 2) := by decide +kernel
theorem dL_sailors_260 : decode cL_sailors 260 = .ok (.iconst 5, 1) := by decide +kernel
theorem dL_sailors_261 : decode cL_sailors 261 = .ok (.invokevirtual 110, 3) := by decide +kernel
theorem dL_sailors_264 : decode cL_sailors 264 = .ok (.aload_n 0, 1) := by decide +kernel
theorem dL_sailors_265 : decode cL_sailors 265 = .ok (.iload 14, 2) := by decide +kernel
theorem dL_sailors_267 : decode cL_sailors 267 = .ok (.iconst 5, 1) := by decide +kernel
theorem dL_sailors_268 : decode cL_sailors 268 = .ok (.invokevirtual 110, 3) := by decide +kernel
theorem dL_sailors_271 : decode cL_sailors 271 = .ok (.isub, 1) := by decide +kernel
theorem dL_sailors_272 : decode cL_sailors 272 = .ok (.istore 15, 2) := by decide +kernel
theorem dL_sailors_274 : decode cL_sailors 274 = .ok (.iload 15, 2) := by decide +kernel
theorem dL_sailors_276 : decode cL_sailors 276 = .ok (.ifCond .eq 8, 3) := by decide +kernel
theorem dL_sailors_279 : decode cL_sailors 279 = .ok (.iload 15, 2) := by decide +kernel
theorem dL_sailors_281 : decode cL_sailors 281 = .ok (.goto 18, 3) := by decide +kernel
theorem dL_sailors_284 : decode cL_sailors 284 = .ok (.aload_n 0, 1) := by decide +kernel
theorem dL_sailors_285 : decode cL_sailors 285 = .ok (.iload 4, 2) := by decide +kernel
theorem dL_sailors_287 : decode cL_sailors 287 = .ok (.iconst 3, 1) := by decide +kernel
theorem dL_sailors_288 : decode cL_sailors 288 = .ok (.invokevirtual 110, 3) := by decide +kernel
theorem dL_sailors_291 : decode cL_sailors 291 = .ok (.aload_n 0, 1) := by decide +kernel
theorem dL_sailors_292 : decode cL_sailors 292 = .ok (.iload 14, 2) := by decide +kernel
theorem dL_sailors_294 : decode cL_sailors 294 = .ok (.iconst 3, 1) := by decide +kernel
theorem dL_sailors_295 : decode cL_sailors 295 = .ok (.invokevirtual 110, 3) := by decide +kernel
theorem dL_sailors_298 : decode cL_sailors 298 = .ok (.isub, 1) := by decide +kernel
theorem dL_sailors_299 : decode cL_sailors 299 = .ok (.istore 15, 2) := by decide +kernel
theorem dL_sailors_301 : decode cL_sailors 301 = .ok (.iload 15, 2) := by decide +kernel
theorem dL_sailors_303 : decode cL_sailors 303 = .ok (.ifCond .lt 102, 3) := by decide +kernel
theorem dL_sailors_306 : decode cL_sailors 306 = .ok (.iload 15, 2) := by decide +kernel
theorem dL_sailors_308 : decode cL_sailors 308 = .ok (.ifCond .ne 10, 3) := by decide +kernel
theorem dL_sailors_311 : decode cL_sailors 311 = .ok (.iload 14, 2) := by decide +kernel
theorem dL_sailors_313 : decode cL_sailors 313 = .ok (.iload 4, 2) := by decide +kernel
theorem dL_sailors_315 : decode cL_sailors 315 = .ok (.if_icmp .lt 90, 3) := by decide +kernel
theorem dL_sailors_318 : decode cL_sailors 318 = .ok (.aload_n 0, 1) := by decide +kernel
theorem dL_sailors_319 : decode cL_sailors 319 = .ok (.iload 7, 2) := by decide +kernel
theorem dL_sailors_321 : decode cL_sailors 321 = .ok (.iconst 3, 1) := by decide +kernel
theorem dL_sailors_322 : decode cL_sailors 322 = .ok (.invokevirtual 110, 3) := by decide +kernel
theorem dL_sailors_325 : decode cL_sailors 325 = .ok (.iload 9, 2) := by decide +kernel
theorem dL_sailors_327 : decode cL_sailors 327 = .ok (.if_icmp .ne 78, 3) := by decide +kernel
theorem dL_sailors_330 : decode cL_sailors 330 = .ok (.aload_n 0, 1) := by decide +kernel
theorem dL_sailors_331 : decode cL_sailors 331 = .ok (.iload 7, 2) := by decide +kernel
theorem dL_sailors_333 : decode cL_sailors 333 = .ok (.iconst 4, 1) := by decide +kernel
theorem dL_sailors_334 : decode cL_sailors 334 = .ok (.invokevirtual 110, 3) := by decide +kernel
theorem dL_sailors_337 : decode cL_sailors 337 = .ok (.iload 10, 2) := by decide +kernel
theorem dL_sailors_339 : decode cL_sailors 339 = .ok (.if_icmp .ne 66, 3) := by decide +kernel
theorem dL_sailors_342 : decode cL_sailors 342 = .ok (.aload_n 0, 1) := by decide +kernel
theorem dL_sailors_343 : decode cL_sailors 343 = .ok (.iload 7, 2) := by decide +kernel
theorem dL_sailors_345 : decode cL_sailors 345 = .ok (.iconst 5, 1) := by decide +kernel
theorem dL_sailors_346 : decode cL_sailors 346 = .ok (.invokevirtual 110, 3) := by decide +kernel
theorem dL_sailors_349 : decode cL_sailors 349 = .ok (.iload 11, 2) := by decide +kernel
theorem dL_sailors_351 : decode cL_sailors 351 = .ok (.if_icmp .ne 54, 3) := by decide +kernel
theorem dL_sailors_354 : decode cL_sailors 354 = .ok (.aload_n 0, 1) := by decide +kernel
theorem dL_sailors_355 : decode cL_sailors 355 = .ok (.iload 7, 2) := by decide +kernel
theorem dL_sailors_357 : decode cL_sailors 357 = .ok (.invokevirtual 137, 3) := by decide +kernel
theorem dL_sailors_360 : decode cL_sailors 360 = .ok (.iload 11, 2) := by decide +kernel
theorem dL_sailors_362 : decode cL_sailors 362 = .ok (.i2f, 1) := by decide +kernel
theorem dL_sailors_363 : decode cL_sailors 363 = .ok (.ldc 118, 2) := by decide +kernel
theorem dL_sailors_365 : decode cL_sailors 365 = .ok (.fdiv, 1) := by decide +kernel
theorem dL_sailors_366 : decode cL_sailors 366 = .ok (.fcmp .l, 1) := by decide +kernel
theorem dL_sailors_367 : decode cL_sailors 367 = .ok (.ifCond .ne 38, 3) := by decide +kernel
theorem dL_sailors_370 : decode cL_sailors 370 = .ok (.aload_n 0, 1) := by decide +kernel
theorem dL_sailors_371 : decode cL_sailors 371 = .ok (.iload 7, 2) := by decide +kernel
theorem dL_sailors_373 : decode cL_sailors 373 = .ok (.invokevirtual 141, 3) := by decide +kernel
theorem dL_sailors_376 : decode cL_sailors 376 = .ok (.fload 12, 2) := by decide +kernel
theorem dL_sailors_378 : decode cL_sailors 378 = .ok (.invokestatic 144, 3) := by decide +kernel
theorem dL_sailors_381 : decode cL_sailors 381 = .ok (.if_icmp .ne 24, 3) := by decide +kernel
theorem dL_sailors_384 : decode cL_sailors 384 = .ok (.aload_n 0, 1) := by decide +kernel
theorem dL_sailors_385 : decode cL_sailors 385 = .ok (.aload_n 0, 1) := by decide +kernel
theorem dL_sailors_386 : decode cL_sailors 386 = .ok (.iload 7, 2) := by decide +kernel
theorem dL_sailors_388 : decode cL_sailors 388 = .ok (.invokevirtual 93, 3) := by decide +kernel
theorem dL_sailors_391 : decode cL_sailors 391 = .ok (.invokestatic 96, 3) := by decide +kernel
theorem dL_sailors_394 : decode cL_sailors 394 = .ok (.aload 13, 2) := by decide +kernel
theorem dL_sailors_396 : decode cL_sailors 396 = .ok (.invokevirtual 86, 3) := by decide +kernel
theorem dL_sailors_399 : decode cL_sailors 399 = .ok (.invokevirtual 150, 3) := by decide +kernel
theorem dL_sailors_402 : decode cL_sailors 402 = .ok (.ifCond .ne 5, 3) := by decide +kernel
theorem dL_sailors_405 : decode cL_sailors 405 = .ok (.iconst 0, 1) := by decide +kernel
theorem dL_sailors_406 : decode cL_sailors 406 = .ok (.ireturn, 1) := by decide +kernel
theorem dL_sailors_407 : decode cL_sailors 407 = .ok (.iload 14, 2) := by decide +kernel
theorem dL_sailors_409 : decode cL_sailors 409 = .ok (.istore 4, 2) := by decide +kernel
theorem dL_sailors_411 : decode cL_sailors 411 = .ok (.iinc 7 1, 3) := by decide +kernel
theorem dL_sailors_414 : decode cL_sailors 414 = .ok (.goto (-395), 3) := by decide +kernel
theorem dL_sailors_417 : decode cL_sailors 417 = .ok (.iconst 0, 1) := by decide +kernel
theorem dL_sailors_418 : decode cL_sailors 418 = .ok (.istore 7, 2) := by decide +kernel
theorem dL_sailors_420 : decode cL_sailors 420 = .ok (.iload 7, 2) := by decide +kernel
theorem dL_sailors_422 : decode cL_sailors 422 = .ok (.iconst 4, 1) := by decide +kernel
theorem dL_sailors_423 : decode cL_sailors 423 = .ok (.if_icmp .ge 155, 3) := by decide +kernel
theorem dL_sailors_426 : decode cL_sailors 426 = .ok (.iconst 3, 1) := by decide +kernel
theorem dL_sailors_427 : decode cL_sailors 427 = .ok (.newarray .int, 2) := by decide +kernel
theorem dL_sailors_429 : decode cL_sailors 429 = .ok (.astore 8, 2) := by decide +kernel
theorem dL_sailors_431 : decode cL_sailors 431 = .ok (.iconst 0, 1) := by decide +kernel
theorem dL_sailors_432 : decode cL_sailors 432 = .ok (.istore 9, 2) := by decide +kernel
theorem dL_sailors_434 : decode cL_sailors 434 = .ok (.iload 9, 2) := by decide +kernel
theorem dL_sailors_436 : decode cL_sailors 436 = .ok (.iload_n 1, 1) := by decide +kernel
theorem dL_sailors_437 : decode cL_sailors 437 = .ok (.if_icmp .ge 91, 3) := by decide +kernel
theorem dL_sailors_440 : decode cL_sailors 440 = .ok (.aload_n 0, 1) := by decide +kernel
theorem dL_sailors_441 : decode cL_sailors 441 = .ok (.iload 9, 2) := by decide +kernel
theorem dL_sailors_443 : decode cL_sailors 443 = .ok (.iconst 2, 1) := by decide +kernel
theorem dL_sailors_444 : decode cL_sailors 444 = .ok (.invokevirtual 110, 3) := by decide +kernel
theorem dL_sailors_447 : decode cL_sailors 447 = .ok (.iload 7, 2) := by decide +kernel
theorem dL_sailors_449 : decode cL_sailors 449 = .ok (.if_icmp .ne 7, 3) := by decide +kernel
theorem dL_sailors_452 : decode cL_sailors 452 = .ok (.iconst 1, 1) := by decide +kernel
theorem dL_sailors_453 : decode cL_sailors 453 = .ok (.goto 4, 3) := by decide +kernel
theorem dL_sailors_456 : decode cL_sailors 456 = .ok (.iconst 0, 1) := by decide +kernel
theorem dL_sailors_457 : decode cL_sailors 457 = .ok (.istore 10, 2) := by decide +kernel
theorem dL_sailors_459 : decode cL_sailors 459 = .ok (.aload 8, 2) := by decide +kernel
theorem dL_sailors_461 : decode cL_sailors 461 = .ok (.iconst 0, 1) := by decide +kernel
theorem dL_sailors_462 : decode cL_sailors 462 = .ok (.dup2, 1) := by decide +kernel
theorem dL_sailors_463 : decode cL_sailors 463 = .ok (.iaload, 1) := by decide +kernel
theorem dL_sailors_464 : decode cL_sailors 464 = .ok (.iload 10, 2) := by decide +kernel
theorem dL_sailors_466 : decode cL_sailors 466 = .ok (.ifCond .eq 7, 3) := by decide +kernel
theorem dL_sailors_469 : decode cL_sailors 469 = .ok (.iconst 1, 1) := by decide +kernel
theorem dL_sailors_470 : decode cL_sailors 470 = .ok (.goto 4, 3) := by decide +kernel
theorem dL_sailors_473 : decode cL_sailors 473 = .ok (.iconst 0, 1) := by decide +kernel
theorem dL_sailors_474 : decode cL_sailors 474 = .ok (.iadd, 1) := by decide +kernel
theorem dL_sailors_475 : decode cL_sailors 475 = .ok (.iastore, 1) := by decide +kernel
theorem dL_sailors_476 : decode cL_sailors 476 = .ok (.aload 8, 2) := by decide +kernel
theorem dL_sailors_478 : decode cL_sailors 478 = .ok (.iconst 1, 1) := by decide +kernel
theorem dL_sailors_479 : decode cL_sailors 479 = .ok (.dup2, 1) := by decide +kernel
theorem dL_sailors_480 : decode cL_sailors 480 = .ok (.iaload, 1) := by decide +kernel
theorem dL_sailors_481 : decode cL_sailors 481 = .ok (.iload 10, 2) := by decide +kernel
theorem dL_sailors_483 : decode cL_sailors 483 = .ok (.ifCond .eq 13, 3) := by decide +kernel
theorem dL_sailors_486 : decode cL_sailors 486 = .ok (.aload_n 0, 1) := by decide +kernel
theorem dL_sailors_487 : decode cL_sailors 487 = .ok (.iload 9, 2) := by decide +kernel
theorem dL_sailors_489 : decode cL_sailors 489 = .ok (.iconst 3, 1) := by decide +kernel
theorem dL_sailors_490 : decode cL_sailors 490 = .ok (.invokevirtual 110, 3) := by decide +kernel
theorem dL_sailors_493 : decode cL_sailors 493 = .ok (.goto 4, 3) := by decide +kernel
theorem dL_sailors_496 : decode cL_sailors 496 = .ok (.iconst 0, 1) := by decide +kernel
theorem dL_sailors_497 : decode cL_sailors 497 = .ok (.iadd, 1) := by decide +kernel
theorem dL_sailors_498 : decode cL_sailors 498 = .ok (.iastore, 1) := by decide +kernel
theorem dL_sailors_499 : decode cL_sailors 499 = .ok (.aload 8, 2) := by decide +kernel
theorem dL_sailors_501 : decode cL_sailors 501 = .ok (.iconst 2, 1) := by decide +kernel
theorem dL_sailors_502 : decode cL_sailors 502 = .ok (.dup2, 1) := by decide +kernel
theorem dL_sailors_503 : decode cL_sailors 503 = .ok (.iaload, 1) := by decide +kernel
theorem dL_sailors_504 : decode cL_sailors 504 = .ok (.iload 10, 2) := by decide +kernel
theorem dL_sailors_506 : decode cL_sailors 506 = .ok (.ifCond .eq 13, 3) := by decide +kernel
theorem dL_sailors_509 : decode cL_sailors 509 = .ok (.aload_n 0, 1) := by decide +kernel
theorem dL_sailors_510 : decode cL_sailors 510 = .ok (.iload 9, 2) := by decide +kernel
theorem dL_sailors_512 : decode cL_sailors 512 = .ok (.iconst 4, 1) := by decide +kernel
theorem dL_sailors_513 : decode cL_sailors 513 = .ok (.invokevirtual 110, 3) := by decide +kernel
theorem dL_sailors_516 : decode cL_sailors 516 = .ok (.goto 4, 3) := by decide +kernel
theorem dL_sailors_519 : decode cL_sailors 519 = .ok (.iconst 0, 1) := by decide +kernel
theorem dL_sailors_520 : decode cL_sailors 520 = .ok (.iadd, 1) := by decide +kernel
theorem dL_sailors_521 : decode cL_sailors 521 = .ok (.iastore, 1) := by decide +kernel
theorem dL_sailors_522 : decode cL_sailors 522 = .ok (.iinc 9 1, 3) := by decide +kernel
theorem dL_sailors_525 : decode cL_sailors 525 = .ok (.goto (-91), 3) := by decide +kernel
theorem dL_sailors_528 : decode cL_sailors 528 = .ok (.aload_n 0, 1) := by decide +kernel
theorem dL_sailors_529 : decode cL_sailors 529 = .ok (.iload 7, 2) := by decide +kernel
theorem dL_sailors_531 : decode cL_sailors 531 = .ok (.iconst 1, 1) := by decide +kernel
theorem dL_sailors_532 : decode cL_sailors 532 = .ok (.invokevirtual 103, 3) := by decide +kernel
theorem dL_sailors_535 : decode cL_sailors 535 = .ok (.aload 8, 2) := by decide +kernel
theorem dL_sailors_537 : decode cL_sailors 537 = .ok (.iconst 0, 1) := by decide +kernel
theorem dL_sailors_538 : decode cL_sailors 538 = .ok (.iaload, 1) := by decide +kernel
theorem dL_sailors_539 : decode cL_sailors 539 = .ok (.if_icmp .ne 31, 3) := by decide +kernel
theorem dL_sailors_542 : decode cL_sailors 542 = .ok (.aload_n 0, 1) := by decide +kernel
theorem dL_sailors_543 : decode cL_sailors 543 = .ok (.iload 7, 2) := by decide +kernel
theorem dL_sailors_545 : decode cL_sailors 545 = .ok (.iconst 2, 1) := by decide +kernel
theorem dL_sailors_546 : decode cL_sailors 546 = .ok (.invokevirtual 103, 3) := by decide +kernel
theorem dL_sailors_549 : decode cL_sailors 549 = .ok (.aload 8, 2) := by decide +kernel
theorem dL_sailors_551 : decode cL_sailors 551 = .ok (.iconst 1, 1) := by decide +kernel
theorem dL_sailors_552 : decode cL_sailors 552 = .ok (.iaload, 1) := by decide +kernel
theorem dL_sailors_553 : decode cL_sailors 553 = .ok (.if_icmp .ne 17, 3) := by decide +kernel
theorem dL_sailors_556 : decode cL_sailors 556 = .ok (.aload_n 0, 1) := by decide +kernel
theorem dL_sailors_557 : decode cL_sailors 557 = .ok (.iload 7, 2) := by decide +kernel
theorem dL_sailors_559 : decode cL_sailors 559 = .ok (.iconst 3, 1) := by decide +kernel
theorem dL_sailors_560 : decode cL_sailors 560 = .ok (.invokevirtual 103, 3) := by decide +kernel
theorem dL_sailors_563 : decode cL_sailors 563 = .ok (.aload 8, 2) := by decide +kernel
theorem dL_sailors_565 : decode cL_sailors 565 = .ok (.iconst 2, 1) := by decide +kernel
theorem dL_sailors_566 : decode cL_sailors 566 = .ok (.iaload, 1) := by decide +kernel
theorem dL_sailors_567 : decode cL_sailors 567 = .ok (.if_icmp .eq 5, 3) := by decide +kernel
theorem dL_sailors_570 : decode cL_sailors 570 = .ok (.iconst 0, 1) := by decide +kernel
theorem dL_sailors_571 : decode cL_sailors 571 = .ok (.ireturn, 1) := by decide +kernel
theorem dL_sailors_572 : decode cL_sailors 572 = .ok (.iinc 7 1, 3) := by decide +kernel
theorem dL_sailors_575 : decode cL_sailors 575 = .ok (.goto (-155), 3) := by decide +kernel
theorem dL_sailors_578 : decode cL_sailors 578 = .ok (.iload_n 1, 1) := by decide +kernel
theorem dL_sailors_579 : decode cL_sailors 579 = .ok (.ifCond .ne 7, 3) := by decide +kernel
theorem dL_sailors_582 : decode cL_sailors 582 = .ok (.dconst 0, 1) := by decide +kernel
theorem dL_sailors_583 : decode cL_sailors 583 = .ok (.goto 8, 3) := by decide +kernel
theorem dL_sailors_586 : decode cL_sailors 586 = .ok (.iload_n 3, 1) := by decide +kernel
theorem dL_sailors_587 : decode cL_sailors 587 = .ok (.i2d, 1) := by decide +kernel
theorem dL_sailors_588 : decode cL_sailors 588 = .ok (.iload_n 1, 1) := by decide +kernel
theorem dL_sailors_589 : decode cL_sailors 589 = .ok (.i2d, 1) := by decide +kernel
theorem dL_sailors_590 : decode cL_sailors 590 = .ok (.ddiv, 1) := by decide +kernel
theorem dL_sailors_591 : decode cL_sailors 591 = .ok (.dstore 7, 2) := by decide +kernel
theorem dL_sailors_593 : decode cL_sailors 593 = .ok (.aload_n 0, 1) := by decide +kernel
theorem dL_sailors_594 : decode cL_sailors 594 = .ok (.iconst 5, 1) := by decide +kernel
theorem dL_sailors_595 : decode cL_sailors 595 = .ok (.invokevirtual 37, 3) := by decide +kernel
theorem dL_sailors_598 : decode cL_sailors 598 = .ok (.iload_n 2, 1) := by decide +kernel
theorem dL_sailors_599 : decode cL_sailors 599 = .ok (.if_icmp .ne 109, 3) := by decide +kernel
theorem dL_sailors_602 : decode cL_sailors 602 = .ok (.aload_n 0, 1) := by decide +kernel
theorem dL_sailors_603 : decode cL_sailors 603 = .ok (.bipush 6, 2) := by decide +kernel
theorem dL_sailors_605 : decode cL_sailors 605 = .ok (.invokevirtual 37, 3) := by decide +kernel
theorem dL_sailors_608 : decode cL_sailors 608 = .ok (.iload_n 2, 1) := by decide +kernel
theorem dL_sailors_609 : decode cL_sailors 609 = .ok (.aload_n 0, 1) := by decide +kernel
theorem dL_sailors_610 : decode cL_sailors 610 = .ok (.bipush 7, 2) := by decide +kernel
theorem dL_sailors_612 : decode cL_sailors 612 = .ok (.invokevirtual 37, 3) := by decide +kernel
theorem dL_sailors_615 : decode cL_sailors 615 = .ok (.iadd, 1) := by decide +kernel
theorem dL_sailors_616 : decode cL_sailors 616 = .ok (.aload_n 0, 1) := by decide +kernel
theorem dL_sailors_617 : decode cL_sailors 617 = .ok (.bipush 8, 2) := by decide +kernel
theorem dL_sailors_619 : decode cL_sailors 619 = .ok (.invokevirtual 37, 3) := by decide +kernel
theorem dL_sailors_622 : decode cL_sailors 622 = .ok (.iadd, 1) := by decide +kernel
theorem dL_sailors_623 : decode cL_sailors 623 = .ok (.if_icmp .ne 85, 3) := by decide +kernel
theorem dL_sailors_626 : decode cL_sailors 626 = .ok (.aload_n 0, 1) := by decide +kernel
theorem dL_sailors_627 : decode cL_sailors 627 = .ok (.invokevirtual 154, 3) := by decide +kernel
theorem dL_sailors_630 : decode cL_sailors 630 = .ok (.dload 7, 2) := by decide +kernel
theorem dL_sailors_632 : decode cL_sailors 632 = .ok (.dcmp .l, 1) := by decide +kernel
theorem dL_sailors_633 : decode cL_sailors 633 = .ok (.ifCond .ne 75, 3) := by decide +kernel
theorem dL_sailors_636 : decode cL_sailors 636 = .ok (.aload_n 0, 1) := by decide +kernel
theorem dL_sailors_637 : decode cL_sailors 637 = .ok (.invokevirtual 158, 3) := by decide +kernel
theorem dL_sailors_640 : decode cL_sailors 640 = .ok (.lload 5, 2) := by decide +kernel
theorem dL_sailors_642 : decode cL_sailors 642 = .ok (.lcmp, 1) := by decide +kernel
theorem dL_sailors_643 : decode cL_sailors 643 = .ok (.ifCond .ne 65, 3) := by decide +kernel
theorem dL_sailors_646 : decode cL_sailors 646 = .ok (.aload_n 0, 1) := by decide +kernel
theorem dL_sailors_647 : decode cL_sailors 647 = .ok (.invokevirtual 162, 3) := by decide +kernel
theorem dL_sailors_650 : decode cL_sailors 650 = .ok (.ifCond .eq 58, 3) := by decide +kernel
theorem dL_sailors_653 : decode cL_sailors 653 = .ok (.aload_n 0, 1) := by decide +kernel
theorem dL_sailors_654 : decode cL_sailors 654 = .ok (.iload_n 1, 1) := by decide +kernel
theorem dL_sailors_655 : decode cL_sailors 655 = .ok (.invokevirtual 134, 3) := by decide +kernel
theorem dL_sailors_658 : decode cL_sailors 658 = .ok (.ldc 166, 2) := by decide +kernel
theorem dL_sailors_660 : decode cL_sailors 660 = .ok (.if_icmp .ne 48, 3) := by decide +kernel
theorem dL_sailors_663 : decode cL_sailors 663 = .ok (.aload_n 0, 1) := by decide +kernel
theorem dL_sailors_664 : decode cL_sailors 664 = .ok (.iload_n 1, 1) := by decide +kernel
theorem dL_sailors_665 : decode cL_sailors 665 = .ok (.invokevirtual 93, 3) := by decide +kernel
theorem dL_sailors_668 : decode cL_sailors 668 = .ok (.ldc 166, 2) := by decide +kernel
theorem dL_sailors_670 : decode cL_sailors 670 = .ok (.if_icmp .ne 38, 3) := by decide +kernel
theorem dL_sailors_673 : decode cL_sailors 673 = .ok (.aload_n 0, 1) := by decide +kernel
theorem dL_sailors_674 : decode cL_sailors 674 = .ok (.iload_n 1, 1) := by decide +kernel
theorem dL_sailors_675 : decode cL_sailors 675 = .ok (.invokevirtual 137, 3) := by decide +kernel
theorem dL_sailors_678 : decode cL_sailors 678 = .ok (.fconst 0, 1) := by decide +kernel
theorem dL_sailors_679 : decode cL_sailors 679 = .ok (.fcmp .l, 1) := by decide +kernel
theorem dL_sailors_680 : decode cL_sailors 680 = .ok (.ifCond .ne 28, 3) := by decide +kernel
theorem dL_sailors_683 : decode cL_sailors 683 = .ok (.aload_n 0, 1) := by decide +kernel
theorem dL_sailors_684 : decode cL_sailors 684 = .ok (.iload_n 1, 1) := by decide +kernel
theorem dL_sailors_685 : decode cL_sailors 685 = .ok (.invokevirtual 141, 3) := by decide +kernel
theorem dL_sailors_688 : decode cL_sailors 688 = .ok (.ldc 166, 2) := by decide +kernel
theorem dL_sailors_690 : decode cL_sailors 690 = .ok (.if_icmp .ne 18, 3) := by decide +kernel
theorem dL_sailors_693 : decode cL_sailors 693 = .ok (.aload_n 0, 1) := by decide +kernel
theorem dL_sailors_694 : decode cL_sailors 694 = .ok (.iconst 4, 1) := by decide +kernel
theorem dL_sailors_695 : decode cL_sailors 695 = .ok (.iconst 0, 1) := by decide +kernel
theorem dL_sailors_696 : decode cL_sailors 696 = .ok (.invokevirtual 103, 3) := by decide +kernel
theorem dL_sailors_699 : decode cL_sailors 699 = .ok (.ldc 166, 2) := by decide +kernel
theorem dL_sailors_701 : decode cL_sailors 701 = .ok (.if_icmp .ne 7, 3) := by decide +kernel
theorem dL_sailors_704 : decode cL_sailors 704 = .ok (.iconst 1, 1) := by decide +kernel
theorem dL_sailors_705 : decode cL_sailors 705 = .ok (.goto 4, 3) := by decide +kernel
theorem dL_sailors_708 : decode cL_sailors 708 = .ok (.iconst 0, 1) := by decide +kernel
theorem dL_sailors_709 : decode cL_sailors 709 = .ok (.ireturn, 1) := by decide +kernel
theorem dL_sights_0 : decode cL_sights 0 = .ok (.aload_n 0, 1) := by decide +kernel
theorem dL_sights_1 : decode cL_sights 1 = .ok (.iconst 3, 1) := by decide +kernel
theorem dL_sights_2 : decode cL_sights 2 = .ok (.invokevirtual 37, 3) := by decide +kernel
theorem dL_sights_5 : decode cL_sights 5 = .ok (.istore_n 1, 1) := by decide +kernel
theorem dL_sights_6 : decode cL_sights 6 = .ok (.iconst (-1), 1) := by decide +kernel
theorem dL_sights_7 : decode cL_sights 7 = .ok (.istore_n 2, 1) := by decide +kernel
theorem dL_sights_8 : decode cL_sights 8 = .ok (.new 77, 3) := by decide +kernel
theorem dL_sights_11 : decode cL_sights 11 = .ok (.dup, 1) := by decide +kernel
theorem dL_sights_12 : decode cL_sights 12 = .ok (.invokespecial 79, 3) := by decide +kernel
theorem dL_sights_15 : decode cL_sights 15 = .ok (.astore_n 3, 1) := by decide +kernel
theorem dL_sights_16 : decode cL_sights 16 = .ok (.iconst 0, 1) := by decide +kernel
theorem dL_sights_17 : decode cL_sights 17 = .ok (.istore 4, 2) := by decide +kernel
theorem dL_sights_19 : decode cL_sights 19 = .ok (.iload 4, 2) := by decide +kernel
theorem dL_sights_21 : decode cL_sights 21 = .ok (.iload_n 1, 1) := by decide +kernel
theorem dL_sights_22 : decode cL_sights 22 = .ok (.if_icmp .ge 190, 3) := by decide +kernel
theorem dL_sights_25 : decode cL_sights 25 = .ok (.aload_n 3, 1) := by decide +kernel
theorem dL_sights_26 : decode cL_sights 26 = .ok (.iload 4, 2) := by decide +kernel
theorem dL_sights_28 : decode cL_sights 28 = .ok (.ifCond .ne 8, 3) := by decide +kernel
theorem dL_sights_31 : decode cL_sights 31 = .ok (.ldc 132, 2) := by decide +kernel
theorem dL_sights_33 : decode cL_sights 33 = .ok (.goto 5, 3) := by decide +kernel
theorem dL_sights_36 : decode cL_sights 36 = .ok (.ldc 167, 2) := by decide +kernel
theorem dL_sights_38 : decode cL_sights 38 = .ok (.invokevirtual 100, 3) := by decide +kernel
theorem dL_sights_41 : decode cL_sights 41 = .ok (.aload_n 0, 1) := by decide +kernel
theorem dL_sights_42 : decode cL_sights 42 = .ok (.iload 4, 2) := by decide +kernel
theorem dL_sights_44 : decode cL_sights 44 = .ok (.iconst 0, 1) := by decide +kernel
theorem dL_sights_45 : decode cL_sights 45 = .ok (.invokevirtual 106, 3) := by decide +kernel
theorem dL_sights_48 : decode cL_sights 48 = .ok (.invokevirtual 90, 3) := by decide +kernel
theorem dL_sights_51 : decode cL_sights 51 = .ok (.bipush 58, 2) := by decide +kernel
theorem dL_sights_53 : decode cL_sights 53 = .ok (.invokevirtual 83, 3) := by decide +kernel
theorem dL_sights_56 : decode cL_sights 56 = .ok (.aload_n 0, 1) := by decide +kernel
theorem dL_sights_57 : decode cL_sights 57 = .ok (.iload 4, 2) := by decide +kernel
theorem dL_sights_59 : decode cL_sights 59 = .ok (.iconst 1, 1) := by decide +kernel
theorem dL_sights_60 : decode cL_sights 60 = .ok (.invokevirtual 106, 3) := by decide +kernel
theorem dL_sights_63 : decode cL_sights 63 = .ok (.invokevirtual 90, 3) := by decide +kernel
theorem dL_sights_66 : decode cL_sights 66 = .ok (.pop, 1) := by decide +kernel
theorem dL_sights_67 : decode cL_sights 67 = .ok (.aload_n 0, 1) := by decide +kernel
theorem dL_sights_68 : decode cL_sights 68 = .ok (.iload 4, 2) := by decide +kernel
theorem dL_sights_70 : decode cL_sights 70 = .ok (.invokevirtual 169, 3) := by decide +kernel
theorem dL_sights_73 : decode cL_sights 73 = .ok (.istore 5, 2) := by decide +kernel
theorem dL_sights_75 : decode cL_sights 75 = .ok (.iload_n 2, 1) := by decide +kernel
theorem dL_sights_76 : decode cL_sights 76 = .ok (.ifCond .ge 7, 3) := by decide +kernel
theorem dL_sights_79 : decode cL_sights 79 = .ok (.fconst 1, 1) := by decide +kernel
theorem dL_sights_80 : decode cL_sights 80 = .ok (.goto 23, 3) := by decide +kernel
theorem dL_sights_83 : decode cL_sights 83 = .ok (.aload_n 0, 1) := by decide +kernel
theorem dL_sights_84 : decode cL_sights 84 = .ok (.iload_n 2, 1) := by decide +kernel
theorem dL_sights_85 : decode cL_sights 85 = .ok (.iconst 2, 1) := by decide +kernel
theorem dL_sights_86 : decode cL_sights 86 = .ok (.invokevirtual 106, 3) := by decide +kernel
theorem dL_sights_89 : decode cL_sights 89 = .ok (.invokestatic 172, 3) := by decide +kernel
theorem dL_sights_92 : decode cL_sights 92 = .ok (.aload_n 0, 1) := by decide +kernel
theorem dL_sights_93 : decode cL_sights 93 = .ok (.iload 5, 2) := by decide +kernel
theorem dL_sights_95 : decode cL_sights 95 = .ok (.iconst 2, 1) := by decide +kernel
theorem dL_sights_96 : decode cL_sights 96 = .ok (.invokevirtual 106, 3) := by decide +kernel
theorem dL_sights_99 : decode cL_sights 99 = .ok (.invokestatic 172, 3) := by decide +kernel
theorem dL_sights_102 : decode cL_sights 102 = .ok (.fsub, 1) := by decide +kernel
theorem dL_sights_103 : decode cL_sights 103 = .ok (.fstore 6, 2) := by decide +kernel
theorem dL_sights_105 : decode cL_sights 105 = .ok (.iload 4, 2) := by decide +kernel
theorem dL_sights_107 : decode cL_sights 107 = .ok (.ifCond .eq 22, 3) := by decide +kernel
theorem dL_sights_110 : decode cL_sights 110 = .ok (.aload_n 0, 1) := by decide +kernel
theorem dL_sights_111 : decode cL_sights 111 = .ok (.iload 4, 2) := by decide +kernel
theorem dL_sights_113 : decode cL_sights 113 = .ok (.iconst 1, 1) := by decide +kernel
theorem dL_sights_114 : decode cL_sights 114 = .ok (.invokevirtual 106, 3) := by decide +kernel
theorem dL_sights_117 : decode cL_sights 117 = .ok (.aload_n 0, 1) := by decide +kernel
theorem dL_sights_118 : decode cL_sights 118 = .ok (.iload 4, 2) := by decide +kernel
theorem dL_sights_120 : decode cL_sights 120 = .ok (.iconst 1, 1) := by decide +kernel
theorem dL_sights_121 : decode cL_sights 121 = .ok (.isub, 1) := by decide +kernel
theorem dL_sights_122 : decode cL_sights 122 = .ok (.iconst 1, 1) := by decide +kernel
theorem dL_sights_123 : decode cL_sights 123 = .ok (.invokevirtual 106, 3) := by decide +kernel
theorem dL_sights_126 : decode cL_sights 126 = .ok (.if_icmp .gt 7, 3) := by decide +kernel
theorem dL_sights_129 : decode cL_sights 129 = .ok (.iconst 1, 1) := by decide +kernel
theorem dL_sights_130 : decode cL_sights 130 = .ok (.goto 4, 3) := by decide +kernel
theorem dL_sights_133 : decode cL_sights 133 = .ok (.iconst 0, 1) := by decide +kernel
theorem dL_sights_134 : decode cL_sights 134 = .ok (.istore 7, 2) := by decide +kernel
theorem dL_sights_136 : decode cL_sights 136 = .ok (.fload 6, 2) := by decide +kernel
theorem dL_sights_138 : decode cL_sights 138 = .ok (.fconst 0, 1) := by decide +kernel
theorem dL_sights_139 : decode cL_sights 139 = .ok (.fcmp .g, 1) := by decide +kernel
theorem dL_sights_140 : decode cL_sights 140 = .ok (.ifCond .lt 61, 3) := by decide +kernel
theorem dL_sights_143 : decode cL_sights 143 = .ok (.fload 6, 2) := by decide +kernel
theorem dL_sights_145 : decode cL_sights 145 = .ok (.fconst 0, 1) := by decide +kernel
theorem dL_sights_146 : decode cL_sights 146 = .ok (.fcmp .l, 1) := by decide +kernel
theorem dL_sights_147 : decode cL_sights 147 = .ok (.ifCond .ne 9, 3) := by decide +kernel
theorem dL_sights_150 : decode cL_sights 150 = .ok (.iload 5, 2) := by decide +kernel
theorem dL_sights_152 : decode cL_sights 152 = .ok (.iload_n 2, 1) := by decide +kernel
theorem dL_sights_153 : decode cL_sights 153 = .ok (.if_icmp .lt 48, 3) := by decide +kernel
theorem dL_sights_156 : decode cL_sights 156 = .ok (.iload 7, 2) := by decide +kernel
theorem dL_sights_158 : decode cL_sights 158 = .ok (.ifCond .eq 43, 3) := by decide +kernel
theorem dL_sights_161 : decode cL_sights 161 = .ok (.aload_n 0, 1) := by decide +kernel
theorem dL_sights_162 : decode cL_sights 162 = .ok (.iload 4, 2) := by decide +kernel
theorem dL_sights_164 : decode cL_sights 164 = .ok (.iconst 0, 1) := by decide +kernel
theorem dL_sights_165 : decode cL_sights 165 = .ok (.invokevirtual 106, 3) := by decide +kernel
theorem dL_sights_168 : decode cL_sights 168 = .ok (.ifCond .lt 33, 3) := by decide +kernel
theorem dL_sights_171 : decode cL_sights 171 = .ok (.aload_n 0, 1) := by decide +kernel
theorem dL_sights_172 : decode cL_sights 172 = .ok (.iload 4, 2) := by decide +kernel
theorem dL_sights_174 : decode cL_sights 174 = .ok (.iconst 0, 1) := by decide +kernel
theorem dL_sights_175 : decode cL_sights 175 = .ok (.invokevirtual 106, 3) := by decide +kernel
theorem dL_sights_178 : decode cL_sights 178 = .ok (.aload_n 0, 1) := by decide +kernel
theorem dL_sights_179 : decode cL_sights 179 = .ok (.iconst 0, 1) := by decide +kernel
theorem dL_sights_180 : decode cL_sights 180 = .ok (.invokevirtual 37, 3) := by decide +kernel
theorem dL_sights_183 : decode cL_sights 183 = .ok (.if_icmp .ge 18, 3) := by decide +kernel
theorem dL_sights_186 : decode cL_sights 186 = .ok (.aload_n 0, 1) := by decide +kernel
theorem dL_sights_187 : decode cL_sights 187 = .ok (.iload 4, 2) := by decide +kernel
theorem dL_sights_189 : decode cL_sights 189 = .ok (.iconst 1, 1) := by decide +kernel
theorem dL_sights_190 : decode cL_sights 190 = .ok (.invokevirtual 106, 3) := by decide +kernel
theorem dL_sights_193 : decode cL_sights 193 = .ok (.aload_n 0, 1) := by decide +kernel
theorem dL_sights_194 : decode cL_sights 194 = .ok (.iconst 1, 1) := by decide +kernel
theorem dL_sights_195 : decode cL_sights 195 = .ok (.invokevirtual 37, 3) := by decide +kernel
theorem dL_sights_198 : decode cL_sights 198 = .ok (.if_icmp .le 5, 3) := by decide +kernel
theorem dL_sights_201 : decode cL_sights 201 = .ok (.iconst 0, 1) := by decide +kernel
theorem dL_sights_202 : decode cL_sights 202 = .ok (.ireturn, 1) := by decide +kernel
theorem dL_sights_203 : decode cL_sights 203 = .ok (.iload 5, 2) := by decide +kernel
theorem dL_sights_205 : decode cL_sights 205 = .ok (.istore_n 2, 1) := by decide +kernel
theorem dL_sights_206 : decode cL_sights 206 = .ok (.iinc 4 1, 3) := by decide +kernel
theorem dL_sights_209 : decode cL_sights 209 = .ok (.goto (-190), 3) := by decide +kernel
theorem dL_sights_212 : decode cL_sights 212 = .ok (.aload_n 0, 1) := by decide +kernel
theorem dL_sights_213 : decode cL_sights 213 = .ok (.iconst 0, 1) := by decide +kernel
theorem dL_sights_214 : decode cL_sights 214 = .ok (.invokevirtual 37, 3) := by decide +kernel
theorem dL_sights_217 : decode cL_sights 217 = .ok (.istore 4, 2) := by decide +kernel
theorem dL_sights_219 : decode cL_sights 219 = .ok (.iload 4, 2) := by decide +kernel
theorem dL_sights_221 : decode cL_sights 221 = .ok (.newarray .float, 2) := by decide +kernel
theorem dL_sights_223 : decode cL_sights 223 = .ok (.astore 5, 2) := by decide +kernel
theorem dL_sights_225 : decode cL_sights 225 = .ok (.iload 4, 2) := by decide +kernel
theorem dL_sights_227 : decode cL_sights 227 = .ok (.newarray .boolean, 2) := by decide +kernel
theorem dL_sights_229 : decode cL_sights 229 = .ok (.astore 6, 2) := by decide +kernel
theorem dL_sights_231 : decode cL_sights 231 = .ok (.iconst 0, 1) := by decide +kernel
theorem dL_sights_232 : decode cL_sights 232 = .ok (.istore 7, 2) := by decide +kernel
theorem dL_sights_234 : decode cL_sights 234 = .ok (.iload 7, 2) := by decide +kernel
theorem dL_sights_236 : decode cL_sights 236 = .ok (.iload 4, 2) := by decide +kernel
theorem dL_sights_238 : decode cL_sights 238 = .ok (.if_icmp .ge 274, 3) := by decide +kernel
theorem dL_sights_241 : decode cL_sights 241 = .ok (.iconst 0, 1) := by decide +kernel
theorem dL_sights_242 : decode cL_sights 242 = .ok (.istore 8, 2) := by decide +kernel
theorem dL_sights_244 : decode cL_sights 244 = .ok (.fconst 0, 1) := by decide +kernel
theorem dL_sights_245 : decode cL_sights 245 = .ok (.fstore 9, 2) := by decide +kernel
theorem dL_sights_247 : decode cL_sights 247 = .ok (.iload_n 1, 1) := by decide +kernel
theorem dL_sights_248 : decode cL_sights 248 = .ok (.iconst 1, 1) := by decide +kernel
theorem dL_sights_249 : decode cL_sights 249 = .ok (.isub, 1) := by decide +kernel
theorem dL_sights_250 : decode cL_sights 250 = .ok (.istore 10, 2) := by decide +kernel
theorem dL_sights_252 : decode cL_sights 252 = .ok (.iload 10, 2) := by decide +kernel
theorem dL_sights_254 : decode cL_sights 254 = .ok (.ifCond .lt 31, 3) := by decide +kernel
theorem dL_sights_257 : decode cL_sights 257 = .ok (.iload 8, 2) := by decide +kernel
theorem dL_sights_259 : decode cL_sights 259 = .ok (.aload_n 0, 1) := by decide +kernel
theorem dL_sights_260 : decode cL_sights 260 = .ok (.iload 10, 2) := by decide +kernel
theorem dL_sights_262 : decode cL_sights 262 = .ok (.iconst 0, 1) := by decide +kernel
theorem dL_sights_263 : decode cL_sights 263 = .ok (.invokevirtual 106, 3) := by decide +kernel
theorem dL_sights_266 : decode cL_sights 266 = .ok (.iload 7, 2) := by decide +kernel
theorem dL_sights_268 : decode cL_sights 268 = .ok (.if_icmp .ne 7, 3) := by decide +kernel
theorem dL_sights_271 : decode cL_sights 271 = .ok (.iconst 1, 1) := by decide +kernel
theorem dL_sights_272 : decode cL_sights 272 = .ok (.goto 4, 3) := by decide +kernel
theorem dL_sights_275 : decode cL_sights 275 = .ok (.iconst 0, 1) := by decide +kernel
theorem dL_sights_276 : decode cL_sights 276 = .ok (.iadd, 1) := by decide +kernel
theorem dL_sights_277 : decode cL_sights 277 = .ok (.istore 8, 2) := by decide +kernel
theorem dL_sights_279 : decode cL_sights 279 = .ok (.iinc 10 (-1), 3) := by decide +kernel
theorem dL_sights_282 : decode cL_sights 282 = .ok (.goto (-30), 3) := by decide +kernel
theorem dL_sights_285 : decode cL_sights 285 = .ok (.iconst 0, 1) := by decide +kernel
theorem dL_sights_286 : decode cL_sights 286 = .ok (.istore 10, 2) := by decide +kernel
theorem dL_sights_288 : decode cL_sights 288 = .ok (.iconst 0, 1) := by decide +kernel
theorem dL_sights_289 : decode cL_sights 289 = .ok (.istore 11, 2) := by decide +kernel
theorem dL_sights_291 : decode cL_sights 291 = .ok (.iload 11, 2) := by decide +kernel
theorem dL_sights_293 : decode cL_sights 293 = .ok (.iload_n 1, 1) := by decide +kernel
theorem dL_sights_294 : decode cL_sights 294 = .ok (.if_icmp .ge 73, 3) := by decide +kernel
theorem dL_sights_297 : decode cL_sights 297 = .ok (.aload_n 0, 1) := by decide +kernel
theorem dL_sights_298 : decode cL_sights 298 = .ok (.iload 11, 2) := by decide +kernel
theorem dL_sights_300 : decode cL_sights 300 = .ok (.iconst 0, 1) := by decide +kernel
theorem dL_sights_301 : decode cL_sights 301 = .ok (.invokevirtual 106, 3) := by decide +kernel
theorem dL_sights_304 : decode cL_sights 304 = .ok (.iload 7, 2) := by decide +kernel
theorem dL_sights_306 : decode cL_sights 306 = .ok (.if_icmp .ne 13, 3) := by decide +kernel
theorem dL_sights_309 : decode cL_sights 309 = .ok (.iload 10, 2) := by decide +kernel
theorem dL_sights_311 : decode cL_sights 311 = .ok (.iconst 2, 1) := by decide +kernel
theorem dL_sights_312 : decode cL_sights 312 = .ok (.if_icmp .ge 7, 3) := by decide +kernel
theorem dL_sights_315 : decode cL_sights 315 = .ok (.iconst 1, 1) := by decide +kernel
theorem dL_sights_316 : decode cL_sights 316 = .ok (.goto 4, 3) := by decide +kernel
theorem dL_sights_319 : decode cL_sights 319 = .ok (.iconst 0, 1) := by decide +kernel
theorem dL_sights_320 : decode cL_sights 320 = .ok (.istore 12, 2) := by decide +kernel
theorem dL_sights_322 : decode cL_sights 322 = .ok (.fload 9, 2) := by decide +kernel
theorem dL_sights_324 : decode cL_sights 324 = .ok (.iload 12, 2) := by decide +kernel
theorem dL_sights_326 : decode cL_sights 326 = .ok (.ifCond .eq 16, 3) := by decide +kernel
theorem dL_sights_329 : decode cL_sights 329 = .ok (.aload_n 0, 1) := by decide +kernel
theorem dL_sights_330 : decode cL_sights 330 = .ok (.iload 11, 2) := by decide +kernel
theorem dL_sights_332 : decode cL_sights 332 = .ok (.iconst 2, 1) := by decide +kernel
theorem dL_sights_333 : decode cL_sights 333 = .ok (.invokevirtual 106, 3) := by decide +kernel
theorem dL_sights_336 : decode cL_sights 336 = .ok (.invokestatic 172, 3) := by decide +kernel
theorem dL_sights_339 : decode cL_sights 339 = .ok (.goto 4, 3) := by decide +kernel
theorem dL_sights_342 : decode cL_sights 342 = .ok (.fconst 0, 1) := by decide +kernel
theorem dL_sights_343 : decode cL_sights 343 = .ok (.fadd, 1) := by decide +kernel
theorem dL_sights_344 : decode cL_sights 344 = .ok (.fstore 9, 2) := by decide +kernel
theorem dL_sights_346 : decode cL_sights 346 = .ok (.iload 10, 2) := by decide +kernel
theorem dL_sights_348 : decode cL_sights 348 = .ok (.iload 12, 2) := by decide +kernel
theorem dL_sights_350 : decode cL_sights 350 = .ok (.ifCond .eq 7, 3) := by decide +kernel
theorem dL_sights_353 : decode cL_sights 353 = .ok (.iconst 1, 1) := by decide +kernel
theorem dL_sights_354 : decode cL_sights 354 = .ok (.goto 4, 3) := by decide +kernel
theorem dL_sights_357 : decode cL_sights 357 = .ok (.iconst 0, 1) := by decide +kernel
theorem dL_sights_358 : decode cL_sights 358 = .ok (.iadd, 1) := by decide +kernel
theorem dL_sights_359 : decode cL_sights 359 = .ok (.istore 10, 2) := by decide +kernel
theorem dL_sights_361 : decode cL_sights 361 = .ok (.iinc 11 1, 3) := by decide +kernel
theorem dL_sights_364 : decode cL_sights 364 = .ok (.goto (-73), 3) := by decide +kernel
theorem dL_sights_367 : decode cL_sights 367 = .ok (.aload 5, 2) := by decide +kernel
theorem dL_sights_369 : decode cL_sights 369 = .ok (.iload 7, 2) := by decide +kernel
theorem dL_sights_371 : decode cL_sights 371 = .ok (.fload 9, 2) := by decide +kernel
theorem dL_sights_373 : decode cL_sights 373 = .ok (.fconst 2, 1) := by decide +kernel
theorem dL_sights_374 : decode cL_sights 374 = .ok (.fdiv, 1) := by decide +kernel
theorem dL_sights_375 : decode cL_sights 375 = .ok (.fastore, 1) := by decide +kernel
theorem dL_sights_376 : decode cL_sights 376 = .ok (.aload 6, 2) := by decide +kernel
theorem dL_sights_378 : decode cL_sights 378 = .ok (.iload 7, 2) := by decide +kernel
theorem dL_sights_380 : decode cL_sights 380 = .ok (.iload 8, 2) := by decide +kernel
theorem dL_sights_382 : decode cL_sights 382 = .ok (.iconst 1, 1) := by decide +kernel
theorem dL_sights_383 : decode cL_sights 383 = .ok (.if_icmp .le 7, 3) := by decide +kernel
theorem dL_sights_386 : decode cL_sights 386 = .ok (.iconst 1, 1) := by decide +kernel
theorem dL_sights_387 : decode cL_sights 387 = .ok (.goto 4, 3) := by decide +kernel
theorem dL_sights_390 : decode cL_sights 390 = .ok (.iconst 0, 1) := by decide +kernel
theorem dL_sights_391 : decode cL_sights 391 = .ok (.bastore, 1) := by decide +kernel
theorem dL_sights_392 : decode cL_sights 392 = .ok (.aload 6, 2) := by decide +kernel
theorem dL_sights_394 : decode cL_sights 394 = .ok (.iload 7, 2) := by decide +kernel
theorem dL_sights_396 : decode cL_sights 396 = .ok (.baload, 1) := by decide +kernel
theorem dL_sights_397 : decode cL_sights 397 = .ok (.ifCond .eq 15, 3) := by decide +kernel
theorem dL_sights_400 : decode cL_sights 400 = .ok (.aload_n 0, 1) := by decide +kernel
theorem dL_sights_401 : decode cL_sights 401 = .ok (.iload 7, 2) := by decide +kernel
theorem dL_sights_403 : decode cL_sights 403 = .ok (.invokevirtual 175, 3) := by decide +kernel
theorem dL_sights_406 : decode cL_sights 406 = .ok (.invokestatic 172, 3) := by decide +kernel
theorem dL_sights_409 : decode cL_sights 409 = .ok (.goto 4, 3) := by decide +kernel
theorem dL_sights_412 : decode cL_sights 412 = .ok (.fconst 0, 1) := by decide +kernel
theorem dL_sights_413 : decode cL_sights 413 = .ok (.fstore 11, 2) := by decide +kernel
theorem dL_sights_415 : decode cL_sights 415 = .ok (.aload 6, 2) := by decide +kernel
theorem dL_sights_417 : decode cL_sights 417 = .ok (.iload 7, 2) := by decide +kernel
theorem dL_sights_419 : decode cL_sights 419 = .ok (.baload, 1) := by decide +kernel
theorem dL_sights_420 : decode cL_sights 420 = .ok (.ifCond .eq 37, 3) := by decide +kernel
theorem dL_sights_423 : decode cL_sights 423 = .ok (.fload 11, 2) := by decide +kernel
theorem dL_sights_425 : decode cL_sights 425 = .ok (.aload 5, 2) := by decide +kernel
theorem dL_sights_427 : decode cL_sights 427 = .ok (.iload 7, 2) := by decide +kernel
theorem dL_sights_429 : decode cL_sights 429 = .ok (.faload, 1) := by decide +kernel
theorem dL_sights_430 : decode cL_sights 430 = .ok (.fcmp .l, 1) := by decide +kernel
theorem dL_sights_431 : decode cL_sights 431 = .ok (.ifCond .ne 22, 3) := by decide +kernel
theorem dL_sights_434 : decode cL_sights 434 = .ok (.aload_n 0, 1) := by decide +kernel
theorem dL_sights_435 : decode cL_sights 435 = .ok (.iload 7, 2) := by decide +kernel
theorem dL_sights_437 : decode cL_sights 437 = .ok (.invokevirtual 178, 3) := by decide +kernel
theorem dL_sights_440 : decode cL_sights 440 = .ok (.aload_n 0, 1) := by decide +kernel
theorem dL_sights_441 : decode cL_sights 441 = .ok (.iload 7, 2) := by decide +kernel
theorem dL_sights_443 : decode cL_sights 443 = .ok (.invokevirtual 175, 3) := by decide +kernel
theorem dL_sights_446 : decode cL_sights 446 = .ok (.if_icmp .ne 7, 3) := by decide +kernel
theorem dL_sights_449 : decode cL_sights 449 = .ok (.iconst 1, 1) := by decide +kernel
theorem dL_sights_450 : decode cL_sights 450 = .ok (.goto 34, 3) := by decide +kernel
theorem dL_sights_453 : decode cL_sights 453 = .ok (.iconst 0, 1) := by decide +kernel
theorem dL_sights_454 : decode cL_sights 454 = .ok (.goto 30, 3) := by decide +kernel
theorem dL_sights_457 : decode cL_sights 457 = .ok (.aload_n 0, 1) := by decide +kernel
theorem dL_sights_458 : decode cL_sights 458 = .ok (.iload 7, 2) := by decide +kernel
theorem dL_sights_460 : decode cL_sights 460 = .ok (.invokevirtual 175, 3) := by decide +kernel
theorem dL_sights_463 : decode cL_sights 463 = .ok (.ldc 181, 2) := by decide +kernel
theorem dL_sights_465 : decode cL_sights 465 = .ok (.if_icmp .ne 18, 3) := by decide +kernel
theorem dL_sights_468 : decode cL_sights 468 = .ok (.aload_n 0, 1) := by decide +kernel
theorem dL_sights_469 : decode cL_sights 469 = .ok (.iload 7, 2) := by decide +kernel
theorem dL_sights_471 : decode cL_sights 471 = .ok (.invokevirtual 178, 3) := by decide +kernel
theorem dL_sights_474 : decode cL_sights 474 = .ok (.ldc 181, 2) := by decide +kernel
theorem dL_sights_476 : decode cL_sights 476 = .ok (.if_icmp .ne 7, 3) := by decide +kernel
theorem dL_sights_479 : decode cL_sights 479 = .ok (.iconst 1, 1) := by decide +kernel
theorem dL_sights_480 : decode cL_sights 480 = .ok (.goto 4, 3) := by decide +kernel
theorem dL_sights_483 : decode cL_sights 483 = .ok (.iconst 0, 1) := by decide +kernel
theorem dL_sights_484 : decode cL_sights 484 = .ok (.istore 12, 2) := by decide +kernel
theorem dL_sights_486 : decode cL_sights 486 = .ok (.iload 12, 2) := by decide +kernel
theorem dL_sights_488 : decode cL_sights 488 = .ok (.ifCond .eq 16, 3) := by decide +kernel
theorem dL_sights_491 : decode cL_sights 491 = .ok (.aload_n 0, 1) := by decide +kernel
theorem dL_sights_492 : decode cL_sights 492 = .ok (.iload 7, 2) := by decide +kernel
theorem dL_sights_494 : decode cL_sights 494 = .ok (.bipush 6, 2) := by decide +kernel
theorem dL_sights_496 : decode cL_sights 496 = .ok (.invokevirtual 110, 3) := by decide +kernel
theorem dL_sights_499 : decode cL_sights 499 = .ok (.iload 8, 2) := by decide +kernel
theorem dL_sights_501 : decode cL_sights 501 = .ok (.if_icmp .eq 5, 3) := by decide +kernel
theorem dL_sights_504 : decode cL_sights 504 = .ok (.iconst 0, 1) := by decide +kernel
theorem dL_sights_505 : decode cL_sights 505 = .ok (.ireturn, 1) := by decide +kernel
theorem dL_sights_506 : decode cL_sights 506 = .ok (.iinc 7 1, 3) := by decide +kernel
theorem dL_sights_509 : decode cL_sights 509 = .ok (.goto (-275), 3) := by decide +kernel
theorem dL_sights_512 : decode cL_sights 512 = .ok (.iconst 0, 1) := by decide +kernel
theorem dL_sights_513 : decode cL_sights 513 = .ok (.istore 7, 2) := by decide +kernel
theorem dL_sights_515 : decode cL_sights 515 = .ok (.iload 7, 2) := by decide +kernel
theorem dL_sights_517 : decode cL_sights 517 = .ok (.iload 4, 2) := by decide +kernel
theorem dL_sights_519 : decode cL_sights 519 = .ok (.iload 4, 2) := by decide +kernel
theorem dL_sights_521 : decode cL_sights 521 = .ok (.imul, 1) := by decide +kernel
theorem dL_sights_522 : decode cL_sights 522 = .ok (.if_icmp .ge 86, 3) := by decide +kernel
theorem dL_sights_525 : decode cL_sights 525 = .ok (.iload 7, 2) := by decide +kernel
theorem dL_sights_527 : decode cL_sights 527 = .ok (.iload 4, 2) := by decide +kernel
theorem dL_sights_529 : decode cL_sights 529 = .ok (.idiv, 1) := by decide +kernel
theorem dL_sights_530 : decode cL_sights 530 = .ok (.istore 8, 2) := by decide +kernel
theorem dL_sights_532 : decode cL_sights 532 = .ok (.iload 7, 2) := by decide +kernel
theorem dL_sights_534 : decode cL_sights 534 = .ok (.iload 4, 2) := by decide +kernel
theorem dL_sights_536 : decode cL_sights 536 = .ok (.irem, 1) := by decide +kernel
theorem dL_sights_537 : decode cL_sights 537 = .ok (.istore 9, 2) := by decide +kernel
theorem dL_sights_539 : decode cL_sights 539 = .ok (.aload 6, 2) := by decide +kernel
theorem dL_sights_541 : decode cL_sights 541 = .ok (.iload 8, 2) := by decide +kernel
theorem dL_sights_543 : decode cL_sights 543 = .ok (.baload, 1) := by decide +kernel
theorem dL_sights_544 : decode cL_sights 544 = .ok (.ifCond .eq 11, 3) := by decide +kernel
theorem dL_sights_547 : decode cL_sights 547 = .ok (.aload 6, 2) := by decide +kernel
theorem dL_sights_549 : decode cL_sights 549 = .ok (.iload 9, 2) := by decide +kernel
theorem dL_sights_551 : decode cL_sights 551 = .ok (.baload, 1) := by decide +kernel
theorem dL_sights_552 : decode cL_sights 552 = .ok (.ifCond .ne 8, 3) := by decide +kernel
theorem dL_sights_555 : decode cL_sights 555 = .ok (.ldc 181, 2) := by decide +kernel
theorem dL_sights_557 : decode cL_sights 557 = .ok (.goto 28, 3) := by decide +kernel
theorem dL_sights_560 : decode cL_sights 560 = .ok (.aload 5, 2) := by decide +kernel
theorem dL_sights_562 : decode cL_sights 562 = .ok (.iload 8, 2) := by decide +kernel
theorem dL_sights_564 : decode cL_sights 564 = .ok (.faload, 1) := by decide +kernel
theorem dL_sights_565 : decode cL_sights 565 = .ok (.aload 5, 2) := by decide +kernel
theorem dL_sights_567 : decode cL_sights 567 = .ok (.iload 9, 2) := by decide +kernel
theorem dL_sights_569 : decode cL_sights 569 = .ok (.faload, 1) := by decide +kernel
theorem dL_sights_570 : decode cL_sights 570 = .ok (.fsub, 1) := by decide +kernel
theorem dL_sights_571 : decode cL_sights 571 = .ok (.invokestatic 182, 3) := by decide +kernel
theorem dL_sights_574 : decode cL_sights 574 = .ok (.ldc 186, 2) := by decide +kernel
theorem dL_sights_576 : decode cL_sights 576 = .ok (.fcmp .g, 1) := by decide +kernel
theorem dL_sights_577 : decode cL_sights 577 = .ok (.ifCond .ge 7, 3) := by decide +kernel
theorem dL_sights_580 : decode cL_sights 580 = .ok (.iconst 1, 1) := by decide +kernel
theorem dL_sights_581 : decode cL_sights 581 = .ok (.goto 4, 3) := by decide +kernel
theorem dL_sights_584 : decode cL_sights 584 = .ok (.iconst 0, 1) := by decide +kernel
theorem dL_sights_585 : decode cL_sights 585 = .ok (.istore 10, 2) := by decide +kernel
theorem dL_sights_587 : decode cL_sights 587 = .ok (.aload_n 0, 1) := by decide +kernel
theorem dL_sights_588 : decode cL_sights 588 = .ok (.iload 8, 2) := by decide +kernel
theorem dL_sights_590 : decode cL_sights 590 = .ok (.iload 9, 2) := by decide +kernel
theorem dL_sights_592 : decode cL_sights 592 = .ok (.invokevirtual 187, 3) := by decide +kernel
theorem dL_sights_595 : decode cL_sights 595 = .ok (.iload 10, 2) := by decide +kernel
theorem dL_sights_597 : decode cL_sights 597 = .ok (.if_icmp .eq 5, 3) := by decide +kernel
theorem dL_sights_600 : decode cL_sights 600 = .ok (.iconst 0, 1) := by decide +kernel
theorem dL_sights_601 : decode cL_sights 601 = .ok (.ireturn, 1) := by decide +kernel
theorem dL_sights_602 : decode cL_sights 602 = .ok (.iinc 7 1, 3) := by decide +kernel
theorem dL_sights_605 : decode cL_sights 605 = .ok (.goto (-90), 3) := by decide +kernel
theorem dL_sights_608 : decode cL_sights 608 = .ok (.iload_n 1, 1) := by decide +kernel
theorem dL_sights_609 : decode cL_sights 609 = .ok (.bipush 10, 2) := by decide +kernel
theorem dL_sights_611 : decode cL_sights 611 = .ok (.if_icmp .gt 78, 3) := by decide +kernel
theorem dL_sights_614 : decode cL_sights 614 = .ok (.iload_n 1, 1) := by decide +kernel
theorem dL_sights_615 : decode cL_sights 615 = .ok (.aload_n 0, 1) := by decide +kernel
theorem dL_sights_616 : decode cL_sights 616 = .ok (.iconst 4, 1) := by decide +kernel
theorem dL_sights_617 : decode cL_sights 617 = .ok (.invokevirtual 37, 3) := by decide +kernel
theorem dL_sights_620 : decode cL_sights 620 = .ok (.if_icmp .gt 69, 3) := by decide +kernel
theorem dL_sights_623 : decode cL_sights 623 = .ok (.aload_n 0, 1) := by decide +kernel
theorem dL_sights_624 : decode cL_sights 624 = .ok (.aload_n 0, 1) := by decide +kernel
theorem dL_sights_625 : decode cL_sights 625 = .ok (.invokevirtual 190, 3) := by decide +kernel
theorem dL_sights_628 : decode cL_sights 628 = .ok (.invokestatic 96, 3) := by decide +kernel
theorem dL_sights_631 : decode cL_sights 631 = .ok (.aload_n 3, 1) := by decide +kernel
theorem dL_sights_632 : decode cL_sights 632 = .ok (.invokevirtual 86, 3) := by decide +kernel
theorem dL_sights_635 : decode cL_sights 635 = .ok (.invokevirtual 150, 3) := by decide +kernel
theorem dL_sights_638 : decode cL_sights 638 = .ok (.ifCond .eq 51, 3) := by decide +kernel
theorem dL_sights_641 : decode cL_sights 641 = .ok (.aload_n 0, 1) := by decide +kernel
theorem dL_sights_642 : decode cL_sights 642 = .ok (.iload_n 1, 1) := by decide +kernel
theorem dL_sights_643 : decode cL_sights 643 = .ok (.invokevirtual 169, 3) := by decide +kernel
theorem dL_sights_646 : decode cL_sights 646 = .ok (.ldc 166, 2) := by decide +kernel
theorem dL_sights_648 : decode cL_sights 648 = .ok (.if_icmp .ne 41, 3) := by decide +kernel
theorem dL_sights_651 : decode cL_sights 651 = .ok (.aload_n 0, 1) := by decide +kernel
theorem dL_sights_652 : decode cL_sights 652 = .ok (.iload_n 1, 1) := by decide +kernel
theorem dL_sights_653 : decode cL_sights 653 = .ok (.iconst 0, 1) := by decide +kernel
theorem dL_sights_654 : decode cL_sights 654 = .ok (.invokevirtual 106, 3) := by decide +kernel
theorem dL_sights_657 : decode cL_sights 657 = .ok (.ldc 166, 2) := by decide +kernel
theorem dL_sights_659 : decode cL_sights 659 = .ok (.if_icmp .ne 30, 3) := by decide +kernel
theorem dL_sights_662 : decode cL_sights 662 = .ok (.aload_n 0, 1) := by decide +kernel
theorem dL_sights_663 : decode cL_sights 663 = .ok (.iconst 0, 1) := by decide +kernel
theorem dL_sights_664 : decode cL_sights 664 = .ok (.iload 4, 2) := by decide +kernel
theorem dL_sights_666 : decode cL_sights 666 = .ok (.invokevirtual 187, 3) := by decide +kernel
theorem dL_sights_669 : decode cL_sights 669 = .ok (.ldc 166, 2) := by decide +kernel
theorem dL_sights_671 : decode cL_sights 671 = .ok (.if_icmp .ne 18, 3) := by decide +kernel
theorem dL_sights_674 : decode cL_sights 674 = .ok (.aload_n 0, 1) := by decide +kernel
theorem dL_sights_675 : decode cL_sights 675 = .ok (.iload 4, 2) := by decide +kernel
theorem dL_sights_677 : decode cL_sights 677 = .ok (.invokevirtual 175, 3) := by decide +kernel
theorem dL_sights_680 : decode cL_sights 680 = .ok (.ldc 166, 2) := by decide +kernel
theorem dL_sights_682 : decode cL_sights 682 = .ok (.if_icmp .ne 7, 3) := by decide +kernel
theorem dL_sights_685 : decode cL_sights 685 = .ok (.iconst 1, 1) := by decide +kernel
theorem dL_sights_686 : decode cL_sights 686 = .ok (.goto 4, 3) := by decide +kernel
theorem dL_sights_689 : decode cL_sights 689 = .ok (.iconst 0, 1) := by decide +kernel
theorem dL_sights_690 : decode cL_sights 690 = .ok (.ireturn, 1) := by decide +kernel
theorem dL_alike_0 : decode cL_alike 0 = .ok (.aload_n 0, 1) := by decide +kernel
theorem dL_alike_1 : decode cL_alike 1 = .ok (.iconst 0, 1) := by decide +kernel
theorem dL_alike_2 : decode cL_alike 2 = .ok (.invokevirtual 37, 3) := by decide +kernel
theorem dL_alike_5 : decode cL_alike 5 = .ok (.istore_n 1, 1) := by decide +kernel
theorem dL_alike_6 : decode cL_alike 6 = .ok (.iload_n 1, 1) := by decide +kernel
theorem dL_alike_7 : decode cL_alike 7 = .ok (.newarray .int, 2) := by decide +kernel
theorem dL_alike_9 : decode cL_alike 9 = .ok (.astore_n 2, 1) := by decide +kernel
theorem dL_alike_10 : decode cL_alike 10 = .ok (.iconst 0, 1) := by decide +kernel
theorem dL_alike_11 : decode cL_alike 11 = .ok (.istore_n 3, 1) := by decide +kernel
theorem dL_alike_12 : decode cL_alike 12 = .ok (.iload_n 3, 1) := by decide +kernel
theorem dL_alike_13 : decode cL_alike 13 = .ok (.iload_n 1, 1) := by decide +kernel
theorem dL_alike_14 : decode cL_alike 14 = .ok (.if_icmp .ge 15, 3) := by decide +kernel
theorem dL_alike_17 : decode cL_alike 17 = .ok (.aload_n 2, 1) := by decide +kernel
theorem dL_alike_18 : decode cL_alike 18 = .ok (.iload_n 3, 1) := by decide +kernel
theorem dL_alike_19 : decode cL_alike 19 = .ok (.iconst 1, 1) := by decide +kernel
theorem dL_alike_20 : decode cL_alike 20 = .ok (.iload_n 3, 1) := by decide +kernel
theorem dL_alike_21 : decode cL_alike 21 = .ok (.ishl, 1) := by decide +kernel
theorem dL_alike_22 : decode cL_alike 22 = .ok (.iastore, 1) := by decide +kernel
theorem dL_alike_23 : decode cL_alike 23 = .ok (.iinc 3 1, 3) := by decide +kernel
theorem dL_alike_26 : decode cL_alike 26 = .ok (.goto (-14), 3) := by decide +kernel
theorem dL_alike_29 : decode cL_alike 29 = .ok (.iconst 0, 1) := by decide +kernel
theorem dL_alike_30 : decode cL_alike 30 = .ok (.istore_n 3, 1) := by decide +kernel
theorem dL_alike_31 : decode cL_alike 31 = .ok (.iload_n 3, 1) := by decide +kernel
theorem dL_alike_32 : decode cL_alike 32 = .ok (.iload_n 1, 1) := by decide +kernel
theorem dL_alike_33 : decode cL_alike 33 = .ok (.iload_n 1, 1) := by decide +kernel
theorem dL_alike_34 : decode cL_alike 34 = .ok (.imul, 1) := by decide +kernel
theorem dL_alike_35 : decode cL_alike 35 = .ok (.if_icmp .ge 227, 3) := by decide +kernel
theorem dL_alike_38 : decode cL_alike 38 = .ok (.iload_n 3, 1) := by decide +kernel
theorem dL_alike_39 : decode cL_alike 39 = .ok (.iload_n 1, 1) := by decide +kernel
theorem dL_alike_40 : decode cL_alike 40 = .ok (.idiv, 1) := by decide +kernel
theorem dL_alike_41 : decode cL_alike 41 = .ok (.istore 4, 2) := by decide +kernel
theorem dL_alike_43 : decode cL_alike 43 = .ok (.iload_n 3, 1) := by decide +kernel
theorem dL_alike_44 : decode cL_alike 44 = .ok (.iload_n 1, 1) := by decide +kernel
theorem dL_alike_45 : decode cL_alike 45 = .ok (.irem, 1) := by decide +kernel
theorem dL_alike_46 : decode cL_alike 46 = .ok (.istore 5, 2) := by decide +kernel
theorem dL_alike_48 : decode cL_alike 48 = .ok (.aload_n 0, 1) := by decide +kernel
theorem dL_alike_49 : decode cL_alike 49 = .ok (.iload 4, 2) := by decide +kernel
theorem dL_alike_51 : decode cL_alike 51 = .ok (.iconst 0, 1) := by decide +kernel
theorem dL_alike_52 : decode cL_alike 52 = .ok (.invokevirtual 110, 3) := by decide +kernel
theorem dL_alike_55 : decode cL_alike 55 = .ok (.aload_n 0, 1) := by decide +kernel
theorem dL_alike_56 : decode cL_alike 56 = .ok (.iload 5, 2) := by decide +kernel
theorem dL_alike_58 : decode cL_alike 58 = .ok (.iconst 0, 1) := by decide +kernel
theorem dL_alike_59 : decode cL_alike 59 = .ok (.invokevirtual 110, 3) := by decide +kernel
theorem dL_alike_62 : decode cL_alike 62 = .ok (.ixor, 1) := by decide +kernel
theorem dL_alike_63 : decode cL_alike 63 = .ok (.invokestatic 113, 3) := by decide +kernel
theorem dL_alike_66 : decode cL_alike 66 = .ok (.istore 6, 2) := by decide +kernel
theorem dL_alike_68 : decode cL_alike 68 = .ok (.iconst 0, 1) := by decide +kernel
theorem dL_alike_69 : decode cL_alike 69 = .ok (.istore 7, 2) := by decide +kernel
theorem dL_alike_71 : decode cL_alike 71 = .ok (.bipush 17, 2) := by decide +kernel
theorem dL_alike_73 : decode cL_alike 73 = .ok (.istore 8, 2) := by decide +kernel
theorem dL_alike_75 : decode cL_alike 75 = .ok (.aload_n 0, 1) := by decide +kernel
theorem dL_alike_76 : decode cL_alike 76 = .ok (.iload 4, 2) := by decide +kernel
theorem dL_alike_78 : decode cL_alike 78 = .ok (.iconst 0, 1) := by decide +kernel
theorem dL_alike_79 : decode cL_alike 79 = .ok (.invokevirtual 110, 3) := by decide +kernel
theorem dL_alike_82 : decode cL_alike 82 = .ok (.istore 9, 2) := by decide +kernel
theorem dL_alike_84 : decode cL_alike 84 = .ok (.iconst 0, 1) := by decide +kernel
theorem dL_alike_85 : decode cL_alike 85 = .ok (.istore 10, 2) := by decide +kernel
theorem dL_alike_87 : decode cL_alike 87 = .ok (.iload 10, 2) := by decide +kernel
theorem dL_alike_89 : decode cL_alike 89 = .ok (.bipush 16, 2) := by decide +kernel
theorem dL_alike_91 : decode cL_alike 91 = .ok (.if_icmp .ge 64, 3) := by decide +kernel
theorem dL_alike_94 : decode cL_alike 94 = .ok (.iload 9, 2) := by decide +kernel
theorem dL_alike_96 : decode cL_alike 96 = .ok (.aload_n 0, 1) := by decide +kernel
theorem dL_alike_97 : decode cL_alike 97 = .ok (.iload 5, 2) := by decide +kernel
theorem dL_alike_99 : decode cL_alike 99 = .ok (.iconst 0, 1) := by decide +kernel
theorem dL_alike_100 : decode cL_alike 100 = .ok (.invokevirtual 110, 3) := by decide +kernel
theorem dL_alike_103 : decode cL_alike 103 = .ok (.ixor, 1) := by decide +kernel
theorem dL_alike_104 : decode cL_alike 104 = .ok (.invokestatic 113, 3) := by decide +kernel
theorem dL_alike_107 : decode cL_alike 107 = .ok (.istore 11, 2) := by decide +kernel
theorem dL_alike_109 : decode cL_alike 109 = .ok (.iload 11, 2) := by decide +kernel
theorem dL_alike_111 : decode cL_alike 111 = .ok (.iload 8, 2) := by decide +kernel
theorem dL_alike_113 : decode cL_alike 113 = .ok (.if_icmp .ge 8, 3) := by decide +kernel
theorem dL_alike_116 : decode cL_alike 116 = .ok (.iload 10, 2) := by decide +kernel
theorem dL_alike_118 : decode cL_alike 118 = .ok (.goto 5, 3) := by decide +kernel
theorem dL_alike_121 : decode cL_alike 121 = .ok (.iload 7, 2) := by decide +kernel
theorem dL_alike_123 : decode cL_alike 123 = .ok (.istore 7, 2) := by decide +kernel
theorem dL_alike_125 : decode cL_alike 125 = .ok (.iload 8, 2) := by decide +kernel
theorem dL_alike_127 : decode cL_alike 127 = .ok (.iload 11, 2) := by decide +kernel
theorem dL_alike_129 : decode cL_alike 129 = .ok (.invokestatic 193, 3) := by decide +kernel
theorem dL_alike_132 : decode cL_alike 132 = .ok (.istore 8, 2) := by decide +kernel
theorem dL_alike_134 : decode cL_alike 134 = .ok (.iload 9, 2) := by decide +kernel
theorem dL_alike_136 : decode cL_alike 136 = .ok (.iconst 1, 1) := by decide +kernel
theorem dL_alike_137 : decode cL_alike 137 = .ok (.ishl, 1) := by decide +kernel
theorem dL_alike_138 : decode cL_alike 138 = .ok (.iload 9, 2) := by decide +kernel
theorem dL_alike_140 : decode cL_alike 140 = .ok (.bipush 15, 2) := by decide +kernel
theorem dL_alike_142 : decode cL_alike 142 = .ok (.ishr, 1) := by decide +kernel
theorem dL_alike_143 : decode cL_alike 143 = .ok (.ior, 1) := by decide +kernel
theorem dL_alike_144 : decode cL_alike 144 = .ok (.ldc 36, 2) := by decide +kernel
theorem dL_alike_146 : decode cL_alike 146 = .ok (.iand, 1) := by decide +kernel
theorem dL_alike_147 : decode cL_alike 147 = .ok (.istore 9, 2) := by decide +kernel
theorem dL_alike_149 : decode cL_alike 149 = .ok (.iinc 10 1, 3) := by decide +kernel
theorem dL_alike_152 : decode cL_alike 152 = .ok (.goto (-65), 3) := by decide +kernel
theorem dL_alike_155 : decode cL_alike 155 = .ok (.aload_n 0, 1) := by decide +kernel
theorem dL_alike_156 : decode cL_alike 156 = .ok (.iload 4, 2) := by decide +kernel
theorem dL_alike_158 : decode cL_alike 158 = .ok (.iload 5, 2) := by decide +kernel
theorem dL_alike_160 : decode cL_alike 160 = .ok (.invokevirtual 196, 3) := by decide +kernel
theorem dL_alike_163 : decode cL_alike 163 = .ok (.iload 6, 2) := by decide +kernel
theorem dL_alike_165 : decode cL_alike 165 = .ok (.if_icmp .ne 29, 3) := by decide +kernel
theorem dL_alike_168 : decode cL_alike 168 = .ok (.aload_n 0, 1) := by decide +kernel
theorem dL_alike_169 : decode cL_alike 169 = .ok (.iload 4, 2) := by decide +kernel
theorem dL_alike_171 : decode cL_alike 171 = .ok (.iload 5, 2) := by decide +kernel
theorem dL_alike_173 : decode cL_alike 173 = .ok (.invokevirtual 199, 3) := by decide +kernel
theorem dL_alike_176 : decode cL_alike 176 = .ok (.iload 6, 2) := by decide +kernel
theorem dL_alike_178 : decode cL_alike 178 = .ok (.if_icmp .ne 16, 3) := by decide +kernel
theorem dL_alike_181 : decode cL_alike 181 = .ok (.aload_n 0, 1) := by decide +kernel
theorem dL_alike_182 : decode cL_alike 182 = .ok (.iload 4, 2) := by decide +kernel
theorem dL_alike_184 : decode cL_alike 184 = .ok (.iload 5, 2) := by decide +kernel
theorem dL_alike_186 : decode cL_alike 186 = .ok (.invokevirtual 202, 3) := by decide +kernel
theorem dL_alike_189 : decode cL_alike 189 = .ok (.iload 7, 2) := by decide +kernel
theorem dL_alike_191 : decode cL_alike 191 = .ok (.if_icmp .eq 5, 3) := by decide +kernel
theorem dL_alike_194 : decode cL_alike 194 = .ok (.iconst 0, 1) := by decide +kernel
theorem dL_alike_195 : decode cL_alike 195 = .ok (.ireturn, 1) := by decide +kernel
theorem dL_alike_196 : decode cL_alike 196 = .ok (.iload 6, 2) := by decide +kernel
theorem dL_alike_198 : decode cL_alike 198 = .ok (.iconst 4, 1) := by decide +kernel
theorem dL_alike_199 : decode cL_alike 199 = .ok (.if_icmp .gt 15, 3) := by decide +kernel
theorem dL_alike_202 : decode cL_alike 202 = .ok (.aload_n 2, 1) := by decide +kernel
theorem dL_alike_203 : decode cL_alike 203 = .ok (.iload 4, 2) := by decide +kernel
theorem dL_alike_205 : decode cL_alike 205 = .ok (.iaload, 1) := by decide +kernel
theorem dL_alike_206 : decode cL_alike 206 = .ok (.aload_n 2, 1) := by decide +kernel
theorem dL_alike_207 : decode cL_alike 207 = .ok (.iload 5, 2) := by decide +kernel
theorem dL_alike_209 : decode cL_alike 209 = .ok (.iaload, 1) := by decide +kernel
theorem dL_alike_210 : decode cL_alike 210 = .ok (.ior, 1) := by decide +kernel
theorem dL_alike_211 : decode cL_alike 211 = .ok (.goto 4, 3) := by decide +kernel
theorem dL_alike_214 : decode cL_alike 214 = .ok (.iconst 0, 1) := by decide +kernel
theorem dL_alike_215 : decode cL_alike 215 = .ok (.istore 10, 2) := by decide +kernel
theorem dL_alike_217 : decode cL_alike 217 = .ok (.iconst 0, 1) := by decide +kernel
theorem dL_alike_218 : decode cL_alike 218 = .ok (.istore 11, 2) := by decide +kernel
theorem dL_alike_220 : decode cL_alike 220 = .ok (.iload 11, 2) := by decide +kernel
theorem dL_alike_222 : decode cL_alike 222 = .ok (.iload_n 1, 1) := by decide +kernel
theorem dL_alike_223 : decode cL_alike 223 = .ok (.if_icmp .ge 33, 3) := by decide +kernel
theorem dL_alike_226 : decode cL_alike 226 = .ok (.aload_n 2, 1) := by decide +kernel
theorem dL_alike_227 : decode cL_alike 227 = .ok (.iload 11, 2) := by decide +kernel
theorem dL_alike_229 : decode cL_alike 229 = .ok (.iload 10, 2) := by decide +kernel
theorem dL_alike_231 : decode cL_alike 231 = .ok (.iload 11, 2) := by decide +kernel
theorem dL_alike_233 : decode cL_alike 233 = .ok (.ishr, 1) := by decide +kernel
theorem dL_alike_234 : decode cL_alike 234 = .ok (.iconst 1, 1) := by decide +kernel
theorem dL_alike_235 : decode cL_alike 235 = .ok (.iand, 1) := by decide +kernel
theorem dL_alike_236 : decode cL_alike 236 = .ok (.iconst 1, 1) := by decide +kernel
theorem dL_alike_237 : decode cL_alike 237 = .ok (.if_icmp .ne 8, 3) := by decide +kernel
theorem dL_alike_240 : decode cL_alike 240 = .ok (.iload 10, 2) := by decide +kernel
theorem dL_alike_242 : decode cL_alike 242 = .ok (.goto 7, 3) := by decide +kernel
theorem dL_alike_245 : decode cL_alike 245 = .ok (.aload_n 2, 1) := by decide +kernel
theorem dL_alike_246 : decode cL_alike 246 = .ok (.iload 11, 2) := by decide +kernel
theorem dL_alike_248 : decode cL_alike 248 = .ok (.iaload, 1) := by decide +kernel
theorem dL_alike_249 : decode cL_alike 249 = .ok (.iastore, 1) := by decide +kernel
theorem dL_alike_250 : decode cL_alike 250 = .ok (.iinc 11 1, 3) := by decide +kernel
theorem dL_alike_253 : decode cL_alike 253 = .ok (.goto (-33), 3) := by decide +kernel
theorem dL_alike_256 : decode cL_alike 256 = .ok (.iinc 3 1, 3) := by decide +kernel
theorem dL_alike_259 : decode cL_alike 259 = .ok (.goto (-228), 3) := by decide +kernel
theorem dL_alike_262 : decode cL_alike 262 = .ok (.iconst 0, 1) := by decide +kernel
theorem dL_alike_263 : decode cL_alike 263 = .ok (.istore_n 3, 1) := by decide +kernel
theorem dL_alike_264 : decode cL_alike 264 = .ok (.iconst 0, 1) := by decide +kernel
theorem dL_alike_265 : decode cL_alike 265 = .ok (.istore 4, 2) := by decide +kernel
theorem dL_alike_267 : decode cL_alike 267 = .ok (.iload 4, 2) := by decide +kernel
theorem dL_alike_269 : decode cL_alike 269 = .ok (.iload_n 1, 1) := by decide +kernel
theorem dL_alike_270 : decode cL_alike 270 = .ok (.if_icmp .ge 106, 3) := by decide +kernel
theorem dL_alike_273 : decode cL_alike 273 = .ok (.iconst 0, 1) := by decide +kernel
theorem dL_alike_274 : decode cL_alike 274 = .ok (.istore 5, 2) := by decide +kernel
theorem dL_alike_276 : decode cL_alike 276 = .ok (.iconst 0, 1) := by decide +kernel
theorem dL_alike_277 : decode cL_alike 277 = .ok (.istore 6, 2) := by decide +kernel
theorem dL_alike_279 : decode cL_alike 279 = .ok (.iload 6, 2) := by decide +kernel
theorem dL_alike_281 : decode cL_alike 281 = .ok (.iload_n 1, 1) := by decide +kernel
theorem dL_alike_282 : decode cL_alike 282 = .ok (.if_icmp .ge 38, 3) := by decide +kernel
theorem dL_alike_285 : decode cL_alike 285 = .ok (.iload 5, 2) := by decide +kernel
theorem dL_alike_287 : decode cL_alike 287 = .ok (.iload 6, 2) := by decide +kernel
theorem dL_alike_289 : decode cL_alike 289 = .ok (.iload 4, 2) := by decide +kernel
theorem dL_alike_291 : decode cL_alike 291 = .ok (.if_icmp .eq 19, 3) := by decide +kernel
theorem dL_alike_294 : decode cL_alike 294 = .ok (.aload_n 0, 1) := by decide +kernel
theorem dL_alike_295 : decode cL_alike 295 = .ok (.iload 4, 2) := by decide +kernel
theorem dL_alike_297 : decode cL_alike 297 = .ok (.iload 6, 2) := by decide +kernel
theorem dL_alike_299 : decode cL_alike 299 = .ok (.invokevirtual 196, 3) := by decide +kernel
theorem dL_alike_302 : decode cL_alike 302 = .ok (.iconst 4, 1) := by decide +kernel
theorem dL_alike_303 : decode cL_alike 303 = .ok (.if_icmp .gt 7, 3) := by decide +kernel
theorem dL_alike_306 : decode cL_alike 306 = .ok (.iconst 1, 1) := by decide +kernel
theorem dL_alike_307 : decode cL_alike 307 = .ok (.goto 4, 3) := by decide +kernel
theorem dL_alike_310 : decode cL_alike 310 = .ok (.iconst 0, 1) := by decide +kernel
theorem dL_alike_311 : decode cL_alike 311 = .ok (.iadd, 1) := by decide +kernel
theorem dL_alike_312 : decode cL_alike 312 = .ok (.istore 5, 2) := by decide +kernel
theorem dL_alike_314 : decode cL_alike 314 = .ok (.iinc 6 1, 3) := by decide +kernel
theorem dL_alike_317 : decode cL_alike 317 = .ok (.goto (-38), 3) := by decide +kernel
theorem dL_alike_320 : decode cL_alike 320 = .ok (.iload_n 3, 1) := by decide +kernel
theorem dL_alike_321 : decode cL_alike 321 = .ok (.aload_n 2, 1) := by decide +kernel
theorem dL_alike_322 : decode cL_alike 322 = .ok (.iload 4, 2) := by decide +kernel
theorem dL_alike_324 : decode cL_alike 324 = .ok (.iaload, 1) := by decide +kernel
theorem dL_alike_325 : decode cL_alike 325 = .ok (.invokestatic 205, 3) := by decide +kernel
theorem dL_alike_328 : decode cL_alike 328 = .ok (.iload 4, 2) := by decide +kernel
theorem dL_alike_330 : decode cL_alike 330 = .ok (.if_icmp .ne 7, 3) := by decide +kernel
theorem dL_alike_333 : decode cL_alike 333 = .ok (.iconst 1, 1) := by decide +kernel
theorem dL_alike_334 : decode cL_alike 334 = .ok (.goto 4, 3) := by decide +kernel
theorem dL_alike_337 : decode cL_alike 337 = .ok (.iconst 0, 1) := by decide +kernel
theorem dL_alike_338 : decode cL_alike 338 = .ok (.iadd, 1) := by decide +kernel
theorem dL_alike_339 : decode cL_alike 339 = .ok (.istore_n 3, 1) := by decide +kernel
theorem dL_alike_340 : decode cL_alike 340 = .ok (.aload_n 0, 1) := by decide +kernel
theorem dL_alike_341 : decode cL_alike 341 = .ok (.iload 4, 2) := by decide +kernel
theorem dL_alike_343 : decode cL_alike 343 = .ok (.bipush 7, 2) := by decide +kernel
theorem dL_alike_345 : decode cL_alike 345 = .ok (.invokevirtual 110, 3) := by decide +kernel
theorem dL_alike_348 : decode cL_alike 348 = .ok (.iload 5, 2) := by decide +kernel
theorem dL_alike_350 : decode cL_alike 350 = .ok (.if_icmp .ne 18, 3) := by decide +kernel
theorem dL_alike_353 : decode cL_alike 353 = .ok (.aload_n 0, 1) := by decide +kernel
theorem dL_alike_354 : decode cL_alike 354 = .ok (.iload 4, 2) := by decide +kernel
theorem dL_alike_356 : decode cL_alike 356 = .ok (.bipush 8, 2) := by decide +kernel
theorem dL_alike_358 : decode cL_alike 358 = .ok (.invokevirtual 110, 3) := by decide +kernel
theorem dL_alike_361 : decode cL_alike 361 = .ok (.aload_n 2, 1) := by decide +kernel
theorem dL_alike_362 : decode cL_alike 362 = .ok (.iload 4, 2) := by decide +kernel
theorem dL_alike_364 : decode cL_alike 364 = .ok (.iaload, 1) := by decide +kernel
theorem dL_alike_365 : decode cL_alike 365 = .ok (.if_icmp .eq 5, 3) := by decide +kernel
theorem dL_alike_368 : decode cL_alike 368 = .ok (.iconst 0, 1) := by decide +kernel
theorem dL_alike_369 : decode cL_alike 369 = .ok (.ireturn, 1) := by decide +kernel
theorem dL_alike_370 : decode cL_alike 370 = .ok (.iinc 4 1, 3) := by decide +kernel
theorem dL_alike_373 : decode cL_alike 373 = .ok (.goto (-106), 3) := by decide +kernel
theorem dL_alike_376 : decode cL_alike 376 = .ok (.aload_n 0, 1) := by decide +kernel
theorem dL_alike_377 : decode cL_alike 377 = .ok (.invokevirtual 208, 3) := by decide +kernel
theorem dL_alike_380 : decode cL_alike 380 = .ok (.iload_n 3, 1) := by decide +kernel
theorem dL_alike_381 : decode cL_alike 381 = .ok (.if_icmp .ne 29, 3) := by decide +kernel
theorem dL_alike_384 : decode cL_alike 384 = .ok (.aload_n 0, 1) := by decide +kernel
theorem dL_alike_385 : decode cL_alike 385 = .ok (.iconst 0, 1) := by decide +kernel
theorem dL_alike_386 : decode cL_alike 386 = .ok (.iload_n 1, 1) := by decide +kernel
theorem dL_alike_387 : decode cL_alike 387 = .ok (.invokevirtual 196, 3) := by decide +kernel
theorem dL_alike_390 : decode cL_alike 390 = .ok (.ldc 166, 2) := by decide +kernel
theorem dL_alike_392 : decode cL_alike 392 = .ok (.if_icmp .ne 18, 3) := by decide +kernel
theorem dL_alike_395 : decode cL_alike 395 = .ok (.aload_n 0, 1) := by decide +kernel
theorem dL_alike_396 : decode cL_alike 396 = .ok (.iload_n 1, 1) := by decide +kernel
theorem dL_alike_397 : decode cL_alike 397 = .ok (.iconst 0, 1) := by decide +kernel
theorem dL_alike_398 : decode cL_alike 398 = .ok (.invokevirtual 202, 3) := by decide +kernel
theorem dL_alike_401 : decode cL_alike 401 = .ok (.ldc 166, 2) := by decide +kernel
theorem dL_alike_403 : decode cL_alike 403 = .ok (.if_icmp .ne 7, 3) := by decide +kernel
theorem dL_alike_406 : decode cL_alike 406 = .ok (.iconst 1, 1) := by decide +kernel
theorem dL_alike_407 : decode cL_alike 407 = .ok (.goto 4, 3) := by decide +kernel
theorem dL_alike_410 : decode cL_alike 410 = .ok (.iconst 0, 1) := by decide +kernel
theorem dL_alike_411 : decode cL_alike 411 = .ok (.ireturn, 1) := by decide +kernel
theorem dL_foretold_0 : decode cL_foretold 0 = .ok (.aload_n 0, 1) := by decide +kernel
theorem dL_foretold_1 : decode cL_foretold 1 = .ok (.invokevirtual 211, 3) := by decide +kernel
theorem dL_foretold_4 : decode cL_foretold 4 = .ok (.istore_n 2, 1) := by decide +kernel
theorem dL_foretold_5 : decode cL_foretold 5 = .ok (.iconst 1, 1) := by decide +kernel
theorem dL_foretold_6 : decode cL_foretold 6 = .ok (.istore_n 3, 1) := by decide +kernel
theorem dL_foretold_7 : decode cL_foretold 7 = .ok (.iload_n 2, 1) := by decide +kernel
theorem dL_foretold_8 : decode cL_foretold 8 = .ok (.ifCond .le 250, 3) := by decide +kernel
theorem dL_foretold_11 : decode cL_foretold 11 = .ok (.aload_n 1, 1) := by decide +kernel
theorem dL_foretold_12 : decode cL_foretold 12 = .ok (.iload_n 2, 1) := by decide +kernel
theorem dL_foretold_13 : decode cL_foretold 13 = .ok (.invokevirtual 23, 3) := by decide +kernel
theorem dL_foretold_16 : decode cL_foretold 16 = .ok (.istore 4, 2) := by decide +kernel
theorem dL_foretold_18 : decode cL_foretold 18 = .ok (.aload_n 1, 1) := by decide +kernel
theorem dL_foretold_19 : decode cL_foretold 19 = .ok (.bipush 7, 2) := by decide +kernel
theorem dL_foretold_21 : decode cL_foretold 21 = .ok (.invokevirtual 23, 3) := by decide +kernel
theorem dL_foretold_24 : decode cL_foretold 24 = .ok (.istore 5, 2) := by decide +kernel
theorem dL_foretold_26 : decode cL_foretold 26 = .ok (.aload_n 0, 1) := by decide +kernel
theorem dL_foretold_27 : decode cL_foretold 27 = .ok (.iload 4, 2) := by decide +kernel
theorem dL_foretold_29 : decode cL_foretold 29 = .ok (.iload 5, 2) := by decide +kernel
theorem dL_foretold_31 : decode cL_foretold 31 = .ok (.invokevirtual 214, 3) := by decide +kernel
theorem dL_foretold_34 : decode cL_foretold 34 = .ok (.istore 6, 2) := by decide +kernel
theorem dL_foretold_36 : decode cL_foretold 36 = .ok (.aload_n 0, 1) := by decide +kernel
theorem dL_foretold_37 : decode cL_foretold 37 = .ok (.iload 4, 2) := by decide +kernel
theorem dL_foretold_39 : decode cL_foretold 39 = .ok (.invokevirtual 217, 3) := by decide +kernel
theorem dL_foretold_42 : decode cL_foretold 42 = .ok (.istore 7, 2) := by decide +kernel
theorem dL_foretold_44 : decode cL_foretold 44 = .ok (.aload_n 0, 1) := by decide +kernel
theorem dL_foretold_45 : decode cL_foretold 45 = .ok (.iconst 5, 1) := by decide +kernel
theorem dL_foretold_46 : decode cL_foretold 46 = .ok (.invokevirtual 37, 3) := by decide +kernel
theorem dL_foretold_49 : decode cL_foretold 49 = .ok (.istore 8, 2) := by decide +kernel
theorem dL_foretold_51 : decode cL_foretold 51 = .ok (.aload_n 0, 1) := by decide +kernel
theorem dL_foretold_52 : decode cL_foretold 52 = .ok (.bipush 7, 2) := by decide +kernel
theorem dL_foretold_54 : decode cL_foretold 54 = .ok (.invokevirtual 37, 3) := by decide +kernel
theorem dL_foretold_57 : decode cL_foretold 57 = .ok (.istore 9, 2) := by decide +kernel
theorem dL_foretold_59 : decode cL_foretold 59 = .ok (.aload_n 0, 1) := by decide +kernel
theorem dL_foretold_60 : decode cL_foretold 60 = .ok (.iload 4, 2) := by decide +kernel
theorem dL_foretold_62 : decode cL_foretold 62 = .ok (.iconst 0, 1) := by decide +kernel
theorem dL_foretold_63 : decode cL_foretold 63 = .ok (.invokevirtual 110, 3) := by decide +kernel
theorem dL_foretold_66 : decode cL_foretold 66 = .ok (.istore 10, 2) := by decide +kernel
theorem dL_foretold_68 : decode cL_foretold 68 = .ok (.iconst 0, 1) := by decide +kernel
theorem dL_foretold_69 : decode cL_foretold 69 = .ok (.istore 11, 2) := by decide +kernel
theorem dL_foretold_71 : decode cL_foretold 71 = .ok (.iload 11, 2) := by decide +kernel
theorem dL_foretold_73 : decode cL_foretold 73 = .ok (.iload 5, 2) := by decide +kernel
theorem dL_foretold_75 : decode cL_foretold 75 = .ok (.if_icmp .ge 82, 3) := by decide +kernel
theorem dL_foretold_78 : decode cL_foretold 78 = .ok (.iload_n 3, 1) := by decide +kernel
theorem dL_foretold_79 : decode cL_foretold 79 = .ok (.iload 7, 2) := by decide +kernel
theorem dL_foretold_81 : decode cL_foretold 81 = .ok (.ldc 181, 2) := by decide +kernel
theorem dL_foretold_83 : decode cL_foretold 83 = .ok (.if_icmp .eq 10, 3) := by decide +kernel
theorem dL_foretold_86 : decode cL_foretold 86 = .ok (.iload 11, 2) := by decide +kernel
theorem dL_foretold_88 : decode cL_foretold 88 = .ok (.iload 7, 2) := by decide +kernel
theorem dL_foretold_90 : decode cL_foretold 90 = .ok (.if_icmp .ge 7, 3) := by decide +kernel
theorem dL_foretold_93 : decode cL_foretold 93 = .ok (.iconst 1, 1) := by decide +kernel
theorem dL_foretold_94 : decode cL_foretold 94 = .ok (.goto 4, 3) := by decide +kernel
theorem dL_foretold_97 : decode cL_foretold 97 = .ok (.iconst 0, 1) := by decide +kernel
theorem dL_foretold_98 : decode cL_foretold 98 = .ok (.aload_n 0, 1) := by decide +kernel
theorem dL_foretold_99 : decode cL_foretold 99 = .ok (.iload 4, 2) := by decide +kernel
theorem dL_foretold_101 : decode cL_foretold 101 = .ok (.iconst 5, 1) := by decide +kernel
theorem dL_foretold_102 : decode cL_foretold 102 = .ok (.invokevirtual 110, 3) := by decide +kernel
theorem dL_foretold_105 : decode cL_foretold 105 = .ok (.ifCond .le 7, 3) := by decide +kernel
theorem dL_foretold_108 : decode cL_foretold 108 = .ok (.iconst 1, 1) := by decide +kernel
theorem dL_foretold_109 : decode cL_foretold 109 = .ok (.goto 4, 3) := by decide +kernel
theorem dL_foretold_112 : decode cL_foretold 112 = .ok (.iconst 0, 1) := by decide +kernel
theorem dL_foretold_113 : decode cL_foretold 113 = .ok (.if_icmp .eq 10, 3) := by decide +kernel
theorem dL_foretold_116 : decode cL_foretold 116 = .ok (.iload 11, 2) := by decide +kernel
theorem dL_foretold_118 : decode cL_foretold 118 = .ok (.iload 7, 2) := by decide +kernel
theorem dL_foretold_120 : decode cL_foretold 120 = .ok (.if_icmp .le 7, 3) := by decide +kernel
theorem dL_foretold_123 : decode cL_foretold 123 = .ok (.iconst 1, 1) := by decide +kernel
theorem dL_foretold_124 : decode cL_foretold 124 = .ok (.goto 4, 3) := by decide +kernel
theorem dL_foretold_127 : decode cL_foretold 127 = .ok (.iconst 0, 1) := by decide +kernel
theorem dL_foretold_128 : decode cL_foretold 128 = .ok (.iand, 1) := by decide +kernel
theorem dL_foretold_129 : decode cL_foretold 129 = .ok (.istore_n 3, 1) := by decide +kernel
theorem dL_foretold_130 : decode cL_foretold 130 = .ok (.aload_n 0, 1) := by decide +kernel
theorem dL_foretold_131 : decode cL_foretold 131 = .ok (.invokevirtual 74, 3) := by decide +kernel
theorem dL_foretold_134 : decode cL_foretold 134 = .ok (.istore 8, 2) := by decide +kernel
theorem dL_foretold_136 : decode cL_foretold 136 = .ok (.iload 10, 2) := by decide +kernel
theorem dL_foretold_138 : decode cL_foretold 138 = .ok (.iconst 1, 1) := by decide +kernel
theorem dL_foretold_139 : decode cL_foretold 139 = .ok (.ishl, 1) := by decide +kernel
theorem dL_foretold_140 : decode cL_foretold 140 = .ok (.iload 10, 2) := by decide +kernel
theorem dL_foretold_142 : decode cL_foretold 142 = .ok (.bipush 15, 2) := by decide +kernel
theorem dL_foretold_144 : decode cL_foretold 144 = .ok (.ishr, 1) := by decide +kernel
theorem dL_foretold_145 : decode cL_foretold 145 = .ok (.ior, 1) := by decide +kernel
theorem dL_foretold_146 : decode cL_foretold 146 = .ok (.ldc 36, 2) := by decide +kernel
theorem dL_foretold_148 : decode cL_foretold 148 = .ok (.iand, 1) := by decide +kernel
theorem dL_foretold_149 : decode cL_foretold 149 = .ok (.istore 10, 2) := by decide +kernel
theorem dL_foretold_151 : decode cL_foretold 151 = .ok (.iinc 11 1, 3) := by decide +kernel
theorem dL_foretold_154 : decode cL_foretold 154 = .ok (.goto (-83), 3) := by decide +kernel
theorem dL_foretold_157 : decode cL_foretold 157 = .ok (.iload_n 3, 1) := by decide +kernel
theorem dL_foretold_158 : decode cL_foretold 158 = .ok (.aload_n 0, 1) := by decide +kernel
theorem dL_foretold_159 : decode cL_foretold 159 = .ok (.iload 4, 2) := by decide +kernel
theorem dL_foretold_161 : decode cL_foretold 161 = .ok (.iconst 5, 1) := by decide +kernel
theorem dL_foretold_162 : decode cL_foretold 162 = .ok (.invokevirtual 110, 3) := by decide +kernel
theorem dL_foretold_165 : decode cL_foretold 165 = .ok (.iload 6, 2) := by decide +kernel
theorem dL_foretold_167 : decode cL_foretold 167 = .ok (.if_icmp .ne 68, 3) := by decide +kernel
theorem dL_foretold_170 : decode cL_foretold 170 = .ok (.aload_n 0, 1) := by decide +kernel
theorem dL_foretold_171 : decode cL_foretold 171 = .ok (.iload 4, 2) := by decide +kernel
theorem dL_foretold_173 : decode cL_foretold 173 = .ok (.iconst 0, 1) := by decide +kernel
theorem dL_foretold_174 : decode cL_foretold 174 = .ok (.invokevirtual 110, 3) := by decide +kernel
theorem dL_foretold_177 : decode cL_foretold 177 = .ok (.iload 10, 2) := by decide +kernel
theorem dL_foretold_179 : decode cL_foretold 179 = .ok (.if_icmp .ne 56, 3) := by decide +kernel
theorem dL_foretold_182 : decode cL_foretold 182 = .ok (.aload_n 0, 1) := by decide +kernel
theorem dL_foretold_183 : decode cL_foretold 183 = .ok (.iconst 5, 1) := by decide +kernel
theorem dL_foretold_184 : decode cL_foretold 184 = .ok (.invokevirtual 37, 3) := by decide +kernel
theorem dL_foretold_187 : decode cL_foretold 187 = .ok (.iload 8, 2) := by decide +kernel
theorem dL_foretold_189 : decode cL_foretold 189 = .ok (.if_icmp .ne 46, 3) := by decide +kernel
theorem dL_foretold_192 : decode cL_foretold 192 = .ok (.aload_n 0, 1) := by decide +kernel
theorem dL_foretold_193 : decode cL_foretold 193 = .ok (.iconst 5, 1) := by decide +kernel
theorem dL_foretold_194 : decode cL_foretold 194 = .ok (.invokevirtual 37, 3) := by decide +kernel
theorem dL_foretold_197 : decode cL_foretold 197 = .ok (.aload_n 0, 1) := by decide +kernel
theorem dL_foretold_198 : decode cL_foretold 198 = .ok (.bipush 7, 2) := by decide +kernel
theorem dL_foretold_200 : decode cL_foretold 200 = .ok (.invokevirtual 37, 3) := by decide +kernel
theorem dL_foretold_203 : decode cL_foretold 203 = .ok (.iadd, 1) := by decide +kernel
theorem dL_foretold_204 : decode cL_foretold 204 = .ok (.aload_n 0, 1) := by decide +kernel
theorem dL_foretold_205 : decode cL_foretold 205 = .ok (.bipush 8, 2) := by decide +kernel
theorem dL_foretold_207 : decode cL_foretold 207 = .ok (.invokevirtual 37, 3) := by decide +kernel
theorem dL_foretold_210 : decode cL_foretold 210 = .ok (.iadd, 1) := by decide +kernel
theorem dL_foretold_211 : decode cL_foretold 211 = .ok (.aload_n 0, 1) := by decide +kernel
theorem dL_foretold_212 : decode cL_foretold 212 = .ok (.bipush 6, 2) := by decide +kernel
theorem dL_foretold_214 : decode cL_foretold 214 = .ok (.invokevirtual 37, 3) := by decide +kernel
theorem dL_foretold_217 : decode cL_foretold 217 = .ok (.if_icmp .ne 18, 3) := by decide +kernel
theorem dL_foretold_220 : decode cL_foretold 220 = .ok (.aload_n 0, 1) := by decide +kernel
theorem dL_foretold_221 : decode cL_foretold 221 = .ok (.bipush 7, 2) := by decide +kernel
theorem dL_foretold_223 : decode cL_foretold 223 = .ok (.invokevirtual 37, 3) := by decide +kernel
theorem dL_foretold_226 : decode cL_foretold 226 = .ok (.iload 9, 2) := by decide +kernel
theorem dL_foretold_228 : decode cL_foretold 228 = .ok (.if_icmp .lt 7, 3) := by decide +kernel
theorem dL_foretold_231 : decode cL_foretold 231 = .ok (.iconst 1, 1) := by decide +kernel
theorem dL_foretold_232 : decode cL_foretold 232 = .ok (.goto 4, 3) := by decide +kernel
theorem dL_foretold_235 : decode cL_foretold 235 = .ok (.iconst 0, 1) := by decide +kernel
theorem dL_foretold_236 : decode cL_foretold 236 = .ok (.iand, 1) := by decide +kernel
theorem dL_foretold_237 : decode cL_foretold 237 = .ok (.istore_n 3, 1) := by decide +kernel
theorem dL_foretold_238 : decode cL_foretold 238 = .ok (.iload_n 3, 1) := by decide +kernel
theorem dL_foretold_239 : decode cL_foretold 239 = .ok (.iload 7, 2) := by decide +kernel
theorem dL_foretold_241 : decode cL_foretold 241 = .ok (.iload 5, 2) := by decide +kernel
theorem dL_foretold_243 : decode cL_foretold 243 = .ok (.if_icmp .ne 8, 3) := by decide +kernel
theorem dL_foretold_246 : decode cL_foretold 246 = .ok (.iload 6, 2) := by decide +kernel
theorem dL_foretold_248 : decode cL_foretold 248 = .ok (.ifCond .gt 7, 3) := by decide +kernel
theorem dL_foretold_251 : decode cL_foretold 251 = .ok (.iconst 1, 1) := by decide +kernel
theorem dL_foretold_252 : decode cL_foretold 252 = .ok (.goto 4, 3) := by decide +kernel
theorem dL_foretold_255 : decode cL_foretold 255 = .ok (.iconst 0, 1) := by decide +kernel
theorem dL_foretold_256 : decode cL_foretold 256 = .ok (.iand, 1) := by decide +kernel
theorem dL_foretold_257 : decode cL_foretold 257 = .ok (.istore_n 3, 1) := by decide +kernel
theorem dL_foretold_258 : decode cL_foretold 258 = .ok (.aload_n 0, 1) := by decide +kernel
theorem dL_foretold_259 : decode cL_foretold 259 = .ok (.invokevirtual 220, 3) := by decide +kernel
theorem dL_foretold_262 : decode cL_foretold 262 = .ok (.iload_n 2, 1) := by decide +kernel
theorem dL_foretold_263 : decode cL_foretold 263 = .ok (.if_icmp .ne 11, 3) := by decide +kernel
theorem dL_foretold_266 : decode cL_foretold 266 = .ok (.iload_n 3, 1) := by decide +kernel
theorem dL_foretold_267 : decode cL_foretold 267 = .ok (.ifCond .eq 7, 3) := by decide +kernel
theorem dL_foretold_270 : decode cL_foretold 270 = .ok (.iconst 1, 1) := by decide +kernel
theorem dL_foretold_271 : decode cL_foretold 271 = .ok (.goto 4, 3) := by decide +kernel
theorem dL_foretold_274 : decode cL_foretold 274 = .ok (.iconst 0, 1) := by decide +kernel
theorem dL_foretold_275 : decode cL_foretold 275 = .ok (.ireturn, 1) := by decide +kernel
theorem dL_law_0 : decode cL_law 0 = .ok (.new 18, 3) := by decide +kernel
theorem dL_law_3 : decode cL_law 3 = .ok (.dup, 1) := by decide +kernel
theorem dL_law_4 : decode cL_law 4 = .ok (.invokespecial 223, 3) := by decide +kernel
theorem dL_law_7 : decode cL_law 7 = .ok (.astore_n 1, 1) := by decide +kernel
theorem dL_law_8 : decode cL_law 8 = .ok (.iconst 0, 1) := by decide +kernel
theorem dL_law_9 : decode cL_law 9 = .ok (.istore_n 2, 1) := by decide +kernel
theorem dL_law_10 : decode cL_law 10 = .ok (.aload_n 1, 1) := by decide +kernel
theorem dL_law_11 : decode cL_law 11 = .ok (.invokevirtual 224, 3) := by decide +kernel
theorem dL_law_14 : decode cL_law 14 = .ok (.ldc 227, 2) := by decide +kernel
theorem dL_law_16 : decode cL_law 16 = .ok (.if_icmp .ne 236, 3) := by decide +kernel
theorem dL_law_19 : decode cL_law 19 = .ok (.aload_n 1, 1) := by decide +kernel
theorem dL_law_20 : decode cL_law 20 = .ok (.invokevirtual 220, 3) := by decide +kernel
theorem dL_law_23 : decode cL_law 23 = .ok (.ldc 227, 2) := by decide +kernel
theorem dL_law_25 : decode cL_law 25 = .ok (.if_icmp .ne 227, 3) := by decide +kernel
theorem dL_law_28 : decode cL_law 28 = .ok (.aload_n 1, 1) := by decide +kernel
theorem dL_law_29 : decode cL_law 29 = .ok (.iconst 0, 1) := by decide +kernel
theorem dL_law_30 : decode cL_law 30 = .ok (.iconst 0, 1) := by decide +kernel
theorem dL_law_31 : decode cL_law 31 = .ok (.invokevirtual 228, 3) := by decide +kernel
theorem dL_law_34 : decode cL_law 34 = .ok (.ldc 227, 2) := by decide +kernel
theorem dL_law_36 : decode cL_law 36 = .ok (.if_icmp .ne 216, 3) := by decide +kernel
theorem dL_law_39 : decode cL_law 39 = .ok (.aload_n 1, 1) := by decide +kernel
theorem dL_law_40 : decode cL_law 40 = .ok (.iconst 2, 1) := by decide +kernel
theorem dL_law_41 : decode cL_law 41 = .ok (.iconst 0, 1) := by decide +kernel
theorem dL_law_42 : decode cL_law 42 = .ok (.invokevirtual 228, 3) := by decide +kernel
theorem dL_law_45 : decode cL_law 45 = .ok (.ldc 232, 2) := by decide +kernel
theorem dL_law_47 : decode cL_law 47 = .ok (.if_icmp .ne 205, 3) := by decide +kernel
theorem dL_law_50 : decode cL_law 50 = .ok (.aload_n 1, 1) := by decide +kernel
theorem dL_law_51 : decode cL_law 51 = .ok (.invokevirtual 233, 3) := by decide +kernel
theorem dL_law_54 : decode cL_law 54 = .ok (.ldc 227, 2) := by decide +kernel
theorem dL_law_56 : decode cL_law 56 = .ok (.if_icmp .ne 196, 3) := by decide +kernel
theorem dL_law_59 : decode cL_law 59 = .ok (.aload_n 1, 1) := by decide +kernel
theorem dL_law_60 : decode cL_law 60 = .ok (.invokevirtual 236, 3) := by decide +kernel
theorem dL_law_63 : decode cL_law 63 = .ok (.ldc 232, 2) := by decide +kernel
theorem dL_law_65 : decode cL_law 65 = .ok (.if_icmp .ne 187, 3) := by decide +kernel
theorem dL_law_68 : decode cL_law 68 = .ok (.aload_n 1, 1) := by decide +kernel
theorem dL_law_69 : decode cL_law 69 = .ok (.invokevirtual 233, 3) := by decide +kernel
theorem dL_law_72 : decode cL_law 72 = .ok (.ifCond .ne 180, 3) := by decide +kernel
theorem dL_law_75 : decode cL_law 75 = .ok (.aload_n 1, 1) := by decide +kernel
theorem dL_law_76 : decode cL_law 76 = .ok (.iconst 0, 1) := by decide +kernel
theorem dL_law_77 : decode cL_law 77 = .ok (.invokevirtual 80, 3) := by decide +kernel
theorem dL_law_80 : decode cL_law 80 = .ok (.ldc 166, 2) := by decide +kernel
theorem dL_law_82 : decode cL_law 82 = .ok (.if_icmp .ne 170, 3) := by decide +kernel
theorem dL_law_85 : decode cL_law 85 = .ok (.aload_n 1, 1) := by decide +kernel
theorem dL_law_86 : decode cL_law 86 = .ok (.ldc 35, 2) := by decide +kernel
theorem dL_law_88 : decode cL_law 88 = .ok (.invokevirtual 50, 3) := by decide +kernel
theorem dL_law_91 : decode cL_law 91 = .ok (.ldc 232, 2) := by decide +kernel
theorem dL_law_93 : decode cL_law 93 = .ok (.if_icmp .ne 159, 3) := by decide +kernel
theorem dL_law_96 : decode cL_law 96 = .ok (.aload_n 1, 1) := by decide +kernel
theorem dL_law_97 : decode cL_law 97 = .ok (.iconst 0, 1) := by decide +kernel
theorem dL_law_98 : decode cL_law 98 = .ok (.invokevirtual 53, 3) := by decide +kernel
theorem dL_law_101 : decode cL_law 101 = .ok (.ldc 166, 2) := by decide +kernel
theorem dL_law_103 : decode cL_law 103 = .ok (.if_icmp .ne 149, 3) := by decide +kernel
theorem dL_law_106 : decode cL_law 106 = .ok (.aload_n 1, 1) := by decide +kernel
theorem dL_law_107 : decode cL_law 107 = .ok (.iconst 0, 1) := by decide +kernel
theorem dL_law_108 : decode cL_law 108 = .ok (.invokevirtual 71, 3) := by decide +kernel
theorem dL_law_111 : decode cL_law 111 = .ok (.ldc 166, 2) := by decide +kernel
theorem dL_law_113 : decode cL_law 113 = .ok (.if_icmp .ne 139, 3) := by decide +kernel
theorem dL_law_116 : decode cL_law 116 = .ok (.aload_n 1, 1) := by decide +kernel
theorem dL_law_117 : decode cL_law 117 = .ok (.iconst 0, 1) := by decide +kernel
theorem dL_law_118 : decode cL_law 118 = .ok (.iconst 0, 1) := by decide +kernel
theorem dL_law_119 : decode cL_law 119 = .ok (.invokevirtual 62, 3) := by decide +kernel
theorem dL_law_122 : decode cL_law 122 = .ok (.ldc 166, 2) := by decide +kernel
theorem dL_law_124 : decode cL_law 124 = .ok (.if_icmp .ne 128, 3) := by decide +kernel
theorem dL_law_127 : decode cL_law 127 = .ok (.aload_n 1, 1) := by decide +kernel
theorem dL_law_128 : decode cL_law 128 = .ok (.iconst 0, 1) := by decide +kernel
theorem dL_law_129 : decode cL_law 129 = .ok (.iconst 4, 1) := by decide +kernel
theorem dL_law_130 : decode cL_law 130 = .ok (.invokevirtual 65, 3) := by decide +kernel
theorem dL_law_133 : decode cL_law 133 = .ok (.ldc 239, 2) := by decide +kernel
theorem dL_law_135 : decode cL_law 135 = .ok (.if_icmp .ne 117, 3) := by decide +kernel
theorem dL_law_138 : decode cL_law 138 = .ok (.aload_n 1, 1) := by decide +kernel
theorem dL_law_139 : decode cL_law 139 = .ok (.iconst 0, 1) := by decide +kernel
theorem dL_law_140 : decode cL_law 140 = .ok (.iconst 0, 1) := by decide +kernel
theorem dL_law_141 : decode cL_law 141 = .ok (.invokevirtual 228, 3) := by decide +kernel
theorem dL_law_144 : decode cL_law 144 = .ok (.iconst 2, 1) := by decide +kernel
theorem dL_law_145 : decode cL_law 145 = .ok (.if_icmp .ne 107, 3) := by decide +kernel
theorem dL_law_148 : decode cL_law 148 = .ok (.aload_n 1, 1) := by decide +kernel
theorem dL_law_149 : decode cL_law 149 = .ok (.iconst 0, 1) := by decide +kernel
theorem dL_law_150 : decode cL_law 150 = .ok (.iconst 1, 1) := by decide +kernel
theorem dL_law_151 : decode cL_law 151 = .ok (.invokevirtual 228, 3) := by decide +kernel
theorem dL_law_154 : decode cL_law 154 = .ok (.iconst 4, 1) := by decide +kernel
theorem dL_law_155 : decode cL_law 155 = .ok (.if_icmp .ne 97, 3) := by decide +kernel
theorem dL_law_158 : decode cL_law 158 = .ok (.aload_n 1, 1) := by decide +kernel
theorem dL_law_159 : decode cL_law 159 = .ok (.iconst 1, 1) := by decide +kernel
theorem dL_law_160 : decode cL_law 160 = .ok (.iconst 0, 1) := by decide +kernel
theorem dL_law_161 : decode cL_law 161 = .ok (.invokevirtual 228, 3) := by decide +kernel
theorem dL_law_164 : decode cL_law 164 = .ok (.ldc 181, 2) := by decide +kernel
theorem dL_law_166 : decode cL_law 166 = .ok (.if_icmp .ne 86, 3) := by decide +kernel
theorem dL_law_169 : decode cL_law 169 = .ok (.aload_n 1, 1) := by decide +kernel
theorem dL_law_170 : decode cL_law 170 = .ok (.iconst 4, 1) := by decide +kernel
theorem dL_law_171 : decode cL_law 171 = .ok (.iconst 0, 1) := by decide +kernel
theorem dL_law_172 : decode cL_law 172 = .ok (.invokevirtual 65, 3) := by decide +kernel
theorem dL_law_175 : decode cL_law 175 = .ok (.ldc 166, 2) := by decide +kernel
theorem dL_law_177 : decode cL_law 177 = .ok (.if_icmp .ne 75, 3) := by decide +kernel
theorem dL_law_180 : decode cL_law 180 = .ok (.aload_n 1, 1) := by decide +kernel
theorem dL_law_181 : decode cL_law 181 = .ok (.iconst 4, 1) := by decide +kernel
theorem dL_law_182 : decode cL_law 182 = .ok (.invokevirtual 68, 3) := by decide +kernel
theorem dL_law_185 : decode cL_law 185 = .ok (.ldc 232, 2) := by decide +kernel
theorem dL_law_187 : decode cL_law 187 = .ok (.if_icmp .ne 65, 3) := by decide +kernel
theorem dL_law_190 : decode cL_law 190 = .ok (.aload_n 1, 1) := by decide +kernel
theorem dL_law_191 : decode cL_law 191 = .ok (.iconst 0, 1) := by decide +kernel
theorem dL_law_192 : decode cL_law 192 = .ok (.invokevirtual 68, 3) := by decide +kernel
theorem dL_law_195 : decode cL_law 195 = .ok (.ldc 239, 2) := by decide +kernel
theorem dL_law_197 : decode cL_law 197 = .ok (.if_icmp .ne 55, 3) := by decide +kernel
theorem dL_law_200 : decode cL_law 200 = .ok (.aload_n 1, 1) := by decide +kernel
theorem dL_law_201 : decode cL_law 201 = .ok (.iconst 0, 1) := by decide +kernel
theorem dL_law_202 : decode cL_law 202 = .ok (.iconst 1, 1) := by decide +kernel
theorem dL_law_203 : decode cL_law 203 = .ok (.invokevirtual 228, 3) := by decide +kernel
theorem dL_law_206 : decode cL_law 206 = .ok (.ifCond .ne 46, 3) := by decide +kernel
theorem dL_law_209 : decode cL_law 209 = .ok (.aload_n 1, 1) := by decide +kernel
theorem dL_law_210 : decode cL_law 210 = .ok (.invokevirtual 158, 3) := by decide +kernel
theorem dL_law_213 : decode cL_law 213 = .ok (.lconst 0, 1) := by decide +kernel
theorem dL_law_214 : decode cL_law 214 = .ok (.lcmp, 1) := by decide +kernel
theorem dL_law_215 : decode cL_law 215 = .ok (.ifCond .ne 37, 3) := by decide +kernel
theorem dL_law_218 : decode cL_law 218 = .ok (.aload_n 1, 1) := by decide +kernel
theorem dL_law_219 : decode cL_law 219 = .ok (.invokevirtual 154, 3) := by decide +kernel
theorem dL_law_222 : decode cL_law 222 = .ok (.dconst 0, 1) := by decide +kernel
theorem dL_law_223 : decode cL_law 223 = .ok (.dcmp .l, 1) := by decide +kernel
theorem dL_law_224 : decode cL_law 224 = .ok (.ifCond .ne 28, 3) := by decide +kernel
theorem dL_law_227 : decode cL_law 227 = .ok (.aload_n 1, 1) := by decide +kernel
theorem dL_law_228 : decode cL_law 228 = .ok (.invokevirtual 208, 3) := by decide +kernel
theorem dL_law_231 : decode cL_law 231 = .ok (.ifCond .ne 21, 3) := by decide +kernel
theorem dL_law_234 : decode cL_law 234 = .ok (.aload_n 1, 1) := by decide +kernel
theorem dL_law_235 : decode cL_law 235 = .ok (.bipush 11, 2) := by decide +kernel
theorem dL_law_237 : decode cL_law 237 = .ok (.invokevirtual 37, 3) := by decide +kernel
theorem dL_law_240 : decode cL_law 240 = .ok (.ldc 232, 2) := by decide +kernel
theorem dL_law_242 : decode cL_law 242 = .ok (.if_icmp .ne 10, 3) := by decide +kernel
theorem dL_law_245 : decode cL_law 245 = .ok (.aload_n 1, 1) := by decide +kernel
theorem dL_law_246 : decode cL_law 246 = .ok (.invokevirtual 162, 3) := by decide +kernel
theorem dL_law_249 : decode cL_law 249 = .ok (.ifCond .ne 5, 3) := by decide +kernel
theorem dL_law_252 : decode cL_law 252 = .ok (.iconst 0, 1) := by decide +kernel
theorem dL_law_253 : decode cL_law 253 = .ok (.ireturn, 1) := by decide +kernel
theorem dL_law_254 : decode cL_law 254 = .ok (.aload_n 1, 1) := by decide +kernel
theorem dL_law_255 : decode cL_law 255 = .ok (.invokestatic 240, 3) := by decide +kernel
theorem dL_law_258 : decode cL_law 258 = .ok (.istore_n 3, 1) := by decide +kernel
theorem dL_law_259 : decode cL_law 259 = .ok (.iconst 0, 1) := by decide +kernel
theorem dL_law_260 : decode cL_law 260 = .ok (.istore 4, 2) := by decide +kernel
theorem dL_law_262 : decode cL_law 262 = .ok (.iload 4, 2) := by decide +kernel
theorem dL_law_264 : decode cL_law 264 = .ok (.bipush 14, 2) := by decide +kernel
theorem dL_law_266 : decode cL_law 266 = .ok (.if_icmp .ge 238, 3) := by decide +kernel
theorem dL_law_269 : decode cL_law 269 = .ok (.aload_n 0, 1) := by decide +kernel
theorem dL_law_270 : decode cL_law 270 = .ok (.iload_n 2, 1) := by decide +kernel
theorem dL_law_271 : decode cL_law 271 = .ok (.invokestatic 244, 3) := by decide +kernel
theorem dL_law_274 : decode cL_law 274 = .ok (.sipush 255, 3) := by decide +kernel
theorem dL_law_277 : decode cL_law 277 = .ok (.iand, 1) := by decide +kernel
theorem dL_law_278 : decode cL_law 278 = .ok (.istore 5, 2) := by decide +kernel
theorem dL_law_280 : decode cL_law 280 = .ok (.new 24, 3) := by decide +kernel
theorem dL_law_283 : decode cL_law 283 = .ok (.dup, 1) := by decide +kernel
theorem dL_law_284 : decode cL_law 284 = .ok (.aload_n 0, 1) := by decide +kernel
theorem dL_law_285 : decode cL_law 285 = .ok (.iload_n 2, 1) := by decide +kernel
theorem dL_law_286 : decode cL_law 286 = .ok (.iconst 1, 1) := by decide +kernel
theorem dL_law_287 : decode cL_law 287 = .ok (.iadd, 1) := by decide +kernel
theorem dL_law_288 : decode cL_law 288 = .ok (.invokestatic 244, 3) := by decide +kernel
theorem dL_law_291 : decode cL_law 291 = .ok (.invokespecial 248, 3) := by decide +kernel
theorem dL_law_294 : decode cL_law 294 = .ok (.astore 6, 2) := by decide +kernel
theorem dL_law_296 : decode cL_law 296 = .ok (.iinc 2 2, 3) := by decide +kernel
theorem dL_law_299 : decode cL_law 299 = .ok (.aload_n 1, 1) := by decide +kernel
theorem dL_law_300 : decode cL_law 300 = .ok (.bipush 10, 2) := by decide +kernel
theorem dL_law_302 : decode cL_law 302 = .ok (.invokevirtual 37, 3) := by decide +kernel
theorem dL_law_305 : decode cL_law 305 = .ok (.istore 7, 2) := by decide +kernel
theorem dL_law_307 : decode cL_law 307 = .ok (.aload_n 1, 1) := by decide +kernel
theorem dL_law_308 : decode cL_law 308 = .ok (.invokestatic 251, 3) := by decide +kernel
theorem dL_law_311 : decode cL_law 311 = .ok (.astore 8, 2) := by decide +kernel
theorem dL_law_313 : decode cL_law 313 = .ok (.aload_n 1, 1) := by decide +kernel
theorem dL_law_314 : decode cL_law 314 = .ok (.iload 5, 2) := by decide +kernel
theorem dL_law_316 : decode cL_law 316 = .ok (.aload 6, 2) := by decide +kernel
theorem dL_law_318 : decode cL_law 318 = .ok (.invokestatic 255, 3) := by decide +kernel
theorem dL_law_321 : decode cL_law 321 = .ok (.istore 9, 2) := by decide +kernel
theorem dL_law_323 : decode cL_law 323 = .ok (.iload 9, 2) := by decide +kernel
theorem dL_law_325 : decode cL_law 325 = .ok (.ldc 166, 2) := by decide +kernel
theorem dL_law_327 : decode cL_law 327 = .ok (.if_icmp .gt 17, 3) := by decide +kernel
theorem dL_law_330 : decode cL_law 330 = .ok (.aload 8, 2) := by decide +kernel
theorem dL_law_332 : decode cL_law 332 = .ok (.aload_n 1, 1) := by decide +kernel
theorem dL_law_333 : decode cL_law 333 = .ok (.invokestatic 251, 3) := by decide +kernel
theorem dL_law_336 : decode cL_law 336 = .ok (.invokevirtual 150, 3) := by decide +kernel
theorem dL_law_339 : decode cL_law 339 = .ok (.ifCond .ne 5, 3) := by decide +kernel
theorem dL_law_342 : decode cL_law 342 = .ok (.iconst 0, 1) := by decide +kernel
theorem dL_law_343 : decode cL_law 343 = .ok (.ireturn, 1) := by decide +kernel
theorem dL_law_344 : decode cL_law 344 = .ok (.iload 9, 2) := by decide +kernel
theorem dL_law_346 : decode cL_law 346 = .ok (.ldc 166, 2) := by decide +kernel
theorem dL_law_348 : decode cL_law 348 = .ok (.if_icmp .gt 8, 3) := by decide +kernel
theorem dL_law_351 : decode cL_law 351 = .ok (.iload 7, 2) := by decide +kernel
theorem dL_law_353 : decode cL_law 353 = .ok (.goto 12, 3) := by decide +kernel
theorem dL_law_356 : decode cL_law 356 = .ok (.bipush 8, 2) := by decide +kernel
theorem dL_law_358 : decode cL_law 358 = .ok (.iload 7, 2) := by decide +kernel
theorem dL_law_360 : decode cL_law 360 = .ok (.iconst 1, 1) := by decide +kernel
theorem dL_law_361 : decode cL_law 361 = .ok (.iadd, 1) := by decide +kernel
theorem dL_law_362 : decode cL_law 362 = .ok (.invokestatic 193, 3) := by decide +kernel
theorem dL_law_365 : decode cL_law 365 = .ok (.istore 7, 2) := by decide +kernel
theorem dL_law_367 : decode cL_law 367 = .ok (.iload 9, 2) := by decide +kernel
theorem dL_law_369 : decode cL_law 369 = .ok (.ldc 166, 2) := by decide +kernel
theorem dL_law_371 : decode cL_law 371 = .ok (.if_icmp .le 38, 3) := by decide +kernel
theorem dL_law_374 : decode cL_law 374 = .ok (.aload 6, 2) := by decide +kernel
theorem dL_law_376 : decode cL_law 376 = .ok (.iconst 4, 1) := by decide +kernel
theorem dL_law_377 : decode cL_law 377 = .ok (.invokevirtual 23, 3) := by decide +kernel
theorem dL_law_380 : decode cL_law 380 = .ok (.ifCond .ne 29, 3) := by decide +kernel
theorem dL_law_383 : decode cL_law 383 = .ok (.iinc 7 (-1), 3) := by decide +kernel
theorem dL_law_386 : decode cL_law 386 = .ok (.aload_n 1, 1) := by decide +kernel
theorem dL_law_387 : decode cL_law 387 = .ok (.invokevirtual 224, 3) := by decide +kernel
theorem dL_law_390 : decode cL_law 390 = .ok (.iload 7, 2) := by decide +kernel
theorem dL_law_392 : decode cL_law 392 = .ok (.if_icmp .ne 15, 3) := by decide +kernel
theorem dL_law_395 : decode cL_law 395 = .ok (.aload 8, 2) := by decide +kernel
theorem dL_law_397 : decode cL_law 397 = .ok (.aload_n 1, 1) := by decide +kernel
theorem dL_law_398 : decode cL_law 398 = .ok (.invokestatic 251, 3) := by decide +kernel
theorem dL_law_401 : decode cL_law 401 = .ok (.invokevirtual 150, 3) := by decide +kernel
theorem dL_law_404 : decode cL_law 404 = .ok (.ifCond .ne 5, 3) := by decide +kernel
theorem dL_law_407 : decode cL_law 407 = .ok (.iconst 0, 1) := by decide +kernel
theorem dL_law_408 : decode cL_law 408 = .ok (.ireturn, 1) := by decide +kernel
theorem dL_law_409 : decode cL_law 409 = .ok (.aload_n 1, 1) := by decide +kernel
theorem dL_law_410 : decode cL_law 410 = .ok (.bipush 10, 2) := by decide +kernel
theorem dL_law_412 : decode cL_law 412 = .ok (.invokevirtual 37, 3) := by decide +kernel
theorem dL_law_415 : decode cL_law 415 = .ok (.iload 7, 2) := by decide +kernel
theorem dL_law_417 : decode cL_law 417 = .ok (.if_icmp .ne 33, 3) := by decide +kernel
theorem dL_law_420 : decode cL_law 420 = .ok (.aload_n 1, 1) := by decide +kernel
theorem dL_law_421 : decode cL_law 421 = .ok (.bipush 9, 2) := by decide +kernel
theorem dL_law_423 : decode cL_law 423 = .ok (.invokevirtual 37, 3) := by decide +kernel
theorem dL_law_426 : decode cL_law 426 = .ok (.ifCond .ne 24, 3) := by decide +kernel
theorem dL_law_429 : decode cL_law 429 = .ok (.aload_n 1, 1) := by decide +kernel
theorem dL_law_430 : decode cL_law 430 = .ok (.invokestatic 259, 3) := by decide +kernel
theorem dL_law_433 : decode cL_law 433 = .ok (.ifCond .eq 17, 3) := by decide +kernel
theorem dL_law_436 : decode cL_law 436 = .ok (.aload_n 1, 1) := by decide +kernel
theorem dL_law_437 : decode cL_law 437 = .ok (.invokestatic 263, 3) := by decide +kernel
theorem dL_law_440 : decode cL_law 440 = .ok (.ifCond .eq 10, 3) := by decide +kernel
theorem dL_law_443 : decode cL_law 443 = .ok (.aload_n 1, 1) := by decide +kernel
theorem dL_law_444 : decode cL_law 444 = .ok (.invokestatic 266, 3) := by decide +kernel
theorem dL_law_447 : decode cL_law 447 = .ok (.ifCond .ne 5, 3) := by decide +kernel
theorem dL_law_450 : decode cL_law 450 = .ok (.iconst 0, 1) := by decide +kernel
theorem dL_law_451 : decode cL_law 451 = .ok (.ireturn, 1) := by decide +kernel
theorem dL_law_452 : decode cL_law 452 = .ok (.iload 4, 2) := by decide +kernel
theorem dL_law_454 : decode cL_law 454 = .ok (.iconst 3, 1) := by decide +kernel
theorem dL_law_455 : decode cL_law 455 = .ok (.irem, 1) := by decide +kernel
theorem dL_law_456 : decode cL_law 456 = .ok (.iconst 2, 1) := by decide +kernel
theorem dL_law_457 : decode cL_law 457 = .ok (.if_icmp .ne 41, 3) := by decide +kernel
theorem dL_law_460 : decode cL_law 460 = .ok (.aload_n 1, 1) := by decide +kernel
theorem dL_law_461 : decode cL_law 461 = .ok (.invokestatic 251, 3) := by decide +kernel
theorem dL_law_464 : decode cL_law 464 = .ok (.astore 8, 2) := by decide +kernel
theorem dL_law_466 : decode cL_law 466 = .ok (.aload_n 1, 1) := by decide +kernel
theorem dL_law_467 : decode cL_law 467 = .ok (.aload 6, 2) := by decide +kernel
theorem dL_law_469 : decode cL_law 469 = .ok (.invokestatic 269, 3) := by decide +kernel
theorem dL_law_472 : decode cL_law 472 = .ok (.ifCond .eq 24, 3) := by decide +kernel
theorem dL_law_475 : decode cL_law 475 = .ok (.aload 8, 2) := by decide +kernel
theorem dL_law_477 : decode cL_law 477 = .ok (.aload_n 1, 1) := by decide +kernel
theorem dL_law_478 : decode cL_law 478 = .ok (.invokestatic 251, 3) := by decide +kernel
theorem dL_law_481 : decode cL_law 481 = .ok (.invokevirtual 150, 3) := by decide +kernel
theorem dL_law_484 : decode cL_law 484 = .ok (.ifCond .eq 12, 3) := by decide +kernel
theorem dL_law_487 : decode cL_law 487 = .ok (.aload_n 1, 1) := by decide +kernel
theorem dL_law_488 : decode cL_law 488 = .ok (.bipush 10, 2) := by decide +kernel
theorem dL_law_490 : decode cL_law 490 = .ok (.invokevirtual 37, 3) := by decide +kernel
theorem dL_law_493 : decode cL_law 493 = .ok (.ifCond .eq 5, 3) := by decide +kernel
theorem dL_law_496 : decode cL_law 496 = .ok (.iconst 0, 1) := by decide +kernel
theorem dL_law_497 : decode cL_law 497 = .ok (.ireturn, 1) := by decide +kernel
theorem dL_law_498 : decode cL_law 498 = .ok (.iinc 4 1, 3) := by decide +kernel
theorem dL_law_501 : decode cL_law 501 = .ok (.goto (-239), 3) := by decide +kernel
theorem dL_law_504 : decode cL_law 504 = .ok (.iload_n 3, 1) := by decide +kernel
theorem dL_law_505 : decode cL_law 505 = .ok (.ifCond .le 7, 3) := by decide +kernel
theorem dL_law_508 : decode cL_law 508 = .ok (.iconst 1, 1) := by decide +kernel
theorem dL_law_509 : decode cL_law 509 = .ok (.goto 4, 3) := by decide +kernel
theorem dL_law_512 : decode cL_law 512 = .ok (.iconst 0, 1) := by decide +kernel
theorem dL_law_513 : decode cL_law 513 = .ok (.ireturn, 1) := by decide +kernel
