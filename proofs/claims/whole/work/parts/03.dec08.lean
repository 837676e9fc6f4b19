theorem dX11_worstWith_66 : decode cX11_worstWith 66 = .ok (.lneg, 1) := by decide +kernel
theorem dX11_worstWith_67 : decode cX11_worstWith 67 = .ok (.goto 5, 3) := by decide +kernel
theorem dX11_worstWith_70 : decode cX11_worstWith 70 = .ok (.lload 8, 2) := by decide +kernel
theorem dX11_worstWith_72 : decode cX11_worstWith 72 = .ok (.lstore 8, 2) := by decide +kernel
theorem dX11_worstWith_74 : decode cX11_worstWith 74 = .ok (.lload 8, 2) := by decide +kernel
theorem dX11_worstWith_76 : decode cX11_worstWith 76 = .ok (.lload 5, 2) := by decide +kernel
theorem dX11_worstWith_78 : decode cX11_worstWith 78 = .ok (.lcmp, 1) := by decide +kernel
theorem dX11_worstWith_79 : decode cX11_worstWith 79 = .ok (.ifCond .le 8, 3) := by decide +kernel
theorem dX11_worstWith_82 : decode cX11_worstWith 82 = .ok (.lload 8, 2) := by decide +kernel
theorem dX11_worstWith_84 : decode cX11_worstWith 84 = .ok (.goto 5, 3) := by decide +kernel
theorem dX11_worstWith_87 : decode cX11_worstWith 87 = .ok (.lload 5, 2) := by decide +kernel
theorem dX11_worstWith_89 : decode cX11_worstWith 89 = .ok (.lstore 5, 2) := by decide +kernel
theorem dX11_worstWith_91 : decode cX11_worstWith 91 = .ok (.iinc 7 1, 3) := by decide +kernel
theorem dX11_worstWith_94 : decode cX11_worstWith 94 = .ok (.goto (-88), 3) := by decide +kernel
theorem dX11_worstWith_97 : decode cX11_worstWith 97 = .ok (.lload 5, 2) := by decide +kernel
theorem dX11_worstWith_99 : decode cX11_worstWith 99 = .ok (.lreturn, 1) := by decide +kernel
theorem dX11_noWorst_0 : decode cX11_noWorst 0 = .ok (.aload_n 0, 1) := by decide +kernel
theorem dX11_noWorst_1 : decode cX11_noWorst 1 = .ok (.invokevirtual 180, 3) := by decide +kernel
theorem dX11_noWorst_4 : decode cX11_noWorst 4 = .ok (.lconst 0, 1) := by decide +kernel
theorem dX11_noWorst_5 : decode cX11_noWorst 5 = .ok (.lcmp, 1) := by decide +kernel
theorem dX11_noWorst_6 : decode cX11_noWorst 6 = .ok (.ifCond .eq 10, 3) := by decide +kernel
theorem dX11_noWorst_9 : decode cX11_noWorst 9 = .ok (.aload_n 0, 1) := by decide +kernel
theorem dX11_noWorst_10 : decode cX11_noWorst 10 = .ok (.invokevirtual 180, 3) := by decide +kernel
theorem dX11_noWorst_13 : decode cX11_noWorst 13 = .ok (.goto 17, 3) := by decide +kernel
theorem dX11_noWorst_16 : decode cX11_noWorst 16 = .ok (.aload_n 0, 1) := by decide +kernel
theorem dX11_noWorst_17 : decode cX11_noWorst 17 = .ok (.invokevirtual 206, 3) := by decide +kernel
theorem dX11_noWorst_20 : decode cX11_noWorst 20 = .ok (.ifCond .ne 9, 3) := by decide +kernel
theorem dX11_noWorst_23 : decode cX11_noWorst 23 = .ok (.ldc2_w 176, 3) := by decide +kernel
theorem dX11_noWorst_26 : decode cX11_noWorst 26 = .ok (.goto 4, 3) := by decide +kernel
theorem dX11_noWorst_29 : decode cX11_noWorst 29 = .ok (.lconst 0, 1) := by decide +kernel
theorem dX11_noWorst_30 : decode cX11_noWorst 30 = .ok (.lreturn, 1) := by decide +kernel
theorem dX11_worst_0 : decode cX11_worst 0 = .ok (.aload_n 0, 1) := by decide +kernel
theorem dX11_worst_1 : decode cX11_worst 1 = .ok (.invokevirtual 210, 3) := by decide +kernel
theorem dX11_worst_4 : decode cX11_worst 4 = .ok (.lconst 0, 1) := by decide +kernel
theorem dX11_worst_5 : decode cX11_worst 5 = .ok (.lcmp, 1) := by decide +kernel
theorem dX11_worst_6 : decode cX11_worst 6 = .ok (.ifCond .eq 14, 3) := by decide +kernel
theorem dX11_worst_9 : decode cX11_worst 9 = .ok (.aload_n 0, 1) := by decide +kernel
theorem dX11_worst_10 : decode cX11_worst 10 = .ok (.aload_n 0, 1) := by decide +kernel
theorem dX11_worst_11 : decode cX11_worst 11 = .ok (.invokevirtual 210, 3) := by decide +kernel
theorem dX11_worst_14 : decode cX11_worst 14 = .ok (.invokevirtual 64, 3) := by decide +kernel
theorem dX11_worst_17 : decode cX11_worst 17 = .ok (.goto 19, 3) := by decide +kernel
theorem dX11_worst_20 : decode cX11_worst 20 = .ok (.aload_n 0, 1) := by decide +kernel
theorem dX11_worst_21 : decode cX11_worst 21 = .ok (.iconst (-1), 1) := by decide +kernel
theorem dX11_worst_22 : decode cX11_worst 22 = .ok (.iconst 0, 1) := by decide +kernel
theorem dX11_worst_23 : decode cX11_worst 23 = .ok (.iconst (-1), 1) := by decide +kernel
theorem dX11_worst_24 : decode cX11_worst 24 = .ok (.iconst 0, 1) := by decide +kernel
theorem dX11_worst_25 : decode cX11_worst 25 = .ok (.invokevirtual 213, 3) := by decide +kernel
theorem dX11_worst_28 : decode cX11_worst 28 = .ok (.aload_n 0, 1) := by decide +kernel
theorem dX11_worst_29 : decode cX11_worst 29 = .ok (.getfield 146, 3) := by decide +kernel
theorem dX11_worst_32 : decode cX11_worst 32 = .ok (.iload_n 1, 1) := by decide +kernel
theorem dX11_worst_33 : decode cX11_worst 33 = .ok (.invokestatic 186, 3) := by decide +kernel
theorem dX11_worst_36 : decode cX11_worst 36 = .ok (.lreturn, 1) := by decide +kernel
theorem dX11_code_0 : decode cX11_code 0 = .ok (.ldc2_w 217, 3) := by decide +kernel
theorem dX11_code_3 : decode cX11_code 3 = .ok (.iload_n 0, 1) := by decide +kernel
theorem dX11_code_4 : decode cX11_code 4 = .ok (.iconst 1, 1) := by decide +kernel
theorem dX11_code_5 : decode cX11_code 5 = .ok (.iadd, 1) := by decide +kernel
theorem dX11_code_6 : decode cX11_code 6 = .ok (.i2l, 1) := by decide +kernel
theorem dX11_code_7 : decode cX11_code 7 = .ok (.lmul, 1) := by decide +kernel
theorem dX11_code_8 : decode cX11_code 8 = .ok (.ldc2_w 219, 3) := by decide +kernel
theorem dX11_code_11 : decode cX11_code 11 = .ok (.iload_n 1, 1) := by decide +kernel
theorem dX11_code_12 : decode cX11_code 12 = .ok (.iconst 3, 1) := by decide +kernel
theorem dX11_code_13 : decode cX11_code 13 = .ok (.iadd, 1) := by decide +kernel
theorem dX11_code_14 : decode cX11_code 14 = .ok (.i2l, 1) := by decide +kernel
theorem dX11_code_15 : decode cX11_code 15 = .ok (.lmul, 1) := by decide +kernel
theorem dX11_code_16 : decode cX11_code 16 = .ok (.ladd, 1) := by decide +kernel
theorem dX11_code_17 : decode cX11_code 17 = .ok (.ldc2_w 221, 3) := by decide +kernel
theorem dX11_code_20 : decode cX11_code 20 = .ok (.iload_n 2, 1) := by decide +kernel
theorem dX11_code_21 : decode cX11_code 21 = .ok (.iconst 1, 1) := by decide +kernel
theorem dX11_code_22 : decode cX11_code 22 = .ok (.iadd, 1) := by decide +kernel
theorem dX11_code_23 : decode cX11_code 23 = .ok (.i2l, 1) := by decide +kernel
theorem dX11_code_24 : decode cX11_code 24 = .ok (.lmul, 1) := by decide +kernel
theorem dX11_code_25 : decode cX11_code 25 = .ok (.ladd, 1) := by decide +kernel
theorem dX11_code_26 : decode cX11_code 26 = .ok (.iload_n 3, 1) := by decide +kernel
theorem dX11_code_27 : decode cX11_code 27 = .ok (.iconst 3, 1) := by decide +kernel
theorem dX11_code_28 : decode cX11_code 28 = .ok (.iadd, 1) := by decide +kernel
theorem dX11_code_29 : decode cX11_code 29 = .ok (.i2l, 1) := by decide +kernel
theorem dX11_code_30 : decode cX11_code 30 = .ok (.ladd, 1) := by decide +kernel
theorem dX11_code_31 : decode cX11_code 31 = .ok (.lreturn, 1) := by decide +kernel
theorem dX11_best_0 : decode cX11_best 0 = .ok (.aload_n 0, 1) := by decide +kernel
theorem dX11_best_1 : decode cX11_best 1 = .ok (.invokevirtual 210, 3) := by decide +kernel
theorem dX11_best_4 : decode cX11_best 4 = .ok (.lconst 0, 1) := by decide +kernel
theorem dX11_best_5 : decode cX11_best 5 = .ok (.lcmp, 1) := by decide +kernel
theorem dX11_best_6 : decode cX11_best 6 = .ok (.ifCond .eq 12, 3) := by decide +kernel
theorem dX11_best_9 : decode cX11_best 9 = .ok (.aload_n 0, 1) := by decide +kernel
theorem dX11_best_10 : decode cX11_best 10 = .ok (.aload_n 0, 1) := by decide +kernel
theorem dX11_best_11 : decode cX11_best 11 = .ok (.invokevirtual 210, 3) := by decide +kernel
theorem dX11_best_14 : decode cX11_best 14 = .ok (.invokevirtual 64, 3) := by decide +kernel
theorem dX11_best_17 : decode cX11_best 17 = .ok (.lreturn, 1) := by decide +kernel
theorem dX11_best_18 : decode cX11_best 18 = .ok (.aload_n 0, 1) := by decide +kernel
theorem dX11_best_19 : decode cX11_best 19 = .ok (.iconst (-1), 1) := by decide +kernel
theorem dX11_best_20 : decode cX11_best 20 = .ok (.iconst 0, 1) := by decide +kernel
theorem dX11_best_21 : decode cX11_best 21 = .ok (.iconst (-1), 1) := by decide +kernel
theorem dX11_best_22 : decode cX11_best 22 = .ok (.iconst 0, 1) := by decide +kernel
theorem dX11_best_23 : decode cX11_best 23 = .ok (.invokevirtual 213, 3) := by decide +kernel
theorem dX11_best_26 : decode cX11_best 26 = .ok (.lstore_n 1, 1) := by decide +kernel
theorem dX11_best_27 : decode cX11_best 27 = .ok (.iconst (-1), 1) := by decide +kernel
theorem dX11_best_28 : decode cX11_best 28 = .ok (.iconst 0, 1) := by decide +kernel
theorem dX11_best_29 : decode cX11_best 29 = .ok (.iconst (-1), 1) := by decide +kernel
theorem dX11_best_30 : decode cX11_best 30 = .ok (.iconst 0, 1) := by decide +kernel
theorem dX11_best_31 : decode cX11_best 31 = .ok (.invokestatic 223, 3) := by decide +kernel
theorem dX11_best_34 : decode cX11_best 34 = .ok (.lstore_n 3, 1) := by decide +kernel
theorem dX11_best_35 : decode cX11_best 35 = .ok (.aload_n 0, 1) := by decide +kernel
theorem dX11_best_36 : decode cX11_best 36 = .ok (.getfield 9, 3) := by decide +kernel
theorem dX11_best_39 : decode cX11_best 39 = .ok (.iconst 2, 1) := by decide +kernel
theorem dX11_best_40 : decode cX11_best 40 = .ok (.iaload, 1) := by decide +kernel
theorem dX11_best_41 : decode cX11_best 41 = .ok (.istore 5, 2) := by decide +kernel
theorem dX11_best_43 : decode cX11_best 43 = .ok (.iconst 0, 1) := by decide +kernel
theorem dX11_best_44 : decode cX11_best 44 = .ok (.istore 6, 2) := by decide +kernel
theorem dX11_best_46 : decode cX11_best 46 = .ok (.iload 6, 2) := by decide +kernel
theorem dX11_best_48 : decode cX11_best 48 = .ok (.iload 5, 2) := by decide +kernel
theorem dX11_best_50 : decode cX11_best 50 = .ok (.if_icmp .ge 81, 3) := by decide +kernel
theorem dX11_best_53 : decode cX11_best 53 = .ok (.bipush (-3), 2) := by decide +kernel
theorem dX11_best_55 : decode cX11_best 55 = .ok (.istore 7, 2) := by decide +kernel
theorem dX11_best_57 : decode cX11_best 57 = .ok (.iload 7, 2) := by decide +kernel
theorem dX11_best_59 : decode cX11_best 59 = .ok (.iconst 3, 1) := by decide +kernel
theorem dX11_best_60 : decode cX11_best 60 = .ok (.if_icmp .gt 65, 3) := by decide +kernel
theorem dX11_best_63 : decode cX11_best 63 = .ok (.iload 7, 2) := by decide +kernel
theorem dX11_best_65 : decode cX11_best 65 = .ok (.ifCond .ne 7, 3) := by decide +kernel
theorem dX11_best_68 : decode cX11_best 68 = .ok (.lload_n 1, 1) := by decide +kernel
theorem dX11_best_69 : decode cX11_best 69 = .ok (.goto 13, 3) := by decide +kernel
theorem dX11_best_72 : decode cX11_best 72 = .ok (.aload_n 0, 1) := by decide +kernel
theorem dX11_best_73 : decode cX11_best 73 = .ok (.iload 6, 2) := by decide +kernel
theorem dX11_best_75 : decode cX11_best 75 = .ok (.iload 7, 2) := by decide +kernel
theorem dX11_best_77 : decode cX11_best 77 = .ok (.iconst (-1), 1) := by decide +kernel
theorem dX11_best_78 : decode cX11_best 78 = .ok (.iconst 0, 1) := by decide +kernel
theorem dX11_best_79 : decode cX11_best 79 = .ok (.invokevirtual 213, 3) := by decide +kernel
theorem dX11_best_82 : decode cX11_best 82 = .ok (.lstore 8, 2) := by decide +kernel
theorem dX11_best_84 : decode cX11_best 84 = .ok (.lload 8, 2) := by decide +kernel
theorem dX11_best_86 : decode cX11_best 86 = .ok (.lload_n 1, 1) := by decide +kernel
theorem dX11_best_87 : decode cX11_best 87 = .ok (.lcmp, 1) := by decide +kernel
theorem dX11_best_88 : decode cX11_best 88 = .ok (.ifCond .ge 15, 3) := by decide +kernel
theorem dX11_best_91 : decode cX11_best 91 = .ok (.iload 6, 2) := by decide +kernel
theorem dX11_best_93 : decode cX11_best 93 = .ok (.iload 7, 2) := by decide +kernel
theorem dX11_best_95 : decode cX11_best 95 = .ok (.iconst (-1), 1) := by decide +kernel
theorem dX11_best_96 : decode cX11_best 96 = .ok (.iconst 0, 1) := by decide +kernel
theorem dX11_best_97 : decode cX11_best 97 = .ok (.invokestatic 223, 3) := by decide +kernel
theorem dX11_best_100 : decode cX11_best 100 = .ok (.goto 4, 3) := by decide +kernel
theorem dX11_best_103 : decode cX11_best 103 = .ok (.lload_n 3, 1) := by decide +kernel
theorem dX11_best_104 : decode cX11_best 104 = .ok (.lstore_n 3, 1) := by decide +kernel
theorem dX11_best_105 : decode cX11_best 105 = .ok (.lload 8, 2) := by decide +kernel
theorem dX11_best_107 : decode cX11_best 107 = .ok (.lload_n 1, 1) := by decide +kernel
theorem dX11_best_108 : decode cX11_best 108 = .ok (.lcmp, 1) := by decide +kernel
theorem dX11_best_109 : decode cX11_best 109 = .ok (.ifCond .ge 8, 3) := by decide +kernel
theorem dX11_best_112 : decode cX11_best 112 = .ok (.lload 8, 2) := by decide +kernel
theorem dX11_best_114 : decode cX11_best 114 = .ok (.goto 4, 3) := by decide +kernel
theorem dX11_best_117 : decode cX11_best 117 = .ok (.lload_n 1, 1) := by decide +kernel
theorem dX11_best_118 : decode cX11_best 118 = .ok (.lstore_n 1, 1) := by decide +kernel
theorem dX11_best_119 : decode cX11_best 119 = .ok (.iinc 7 1, 3) := by decide +kernel
theorem dX11_best_122 : decode cX11_best 122 = .ok (.goto (-65), 3) := by decide +kernel
theorem dX11_best_125 : decode cX11_best 125 = .ok (.iinc 6 1, 3) := by decide +kernel
theorem dX11_best_128 : decode cX11_best 128 = .ok (.goto (-82), 3) := by decide +kernel
theorem dX11_best_131 : decode cX11_best 131 = .ok (.iconst 0, 1) := by decide +kernel
theorem dX11_best_132 : decode cX11_best 132 = .ok (.istore 6, 2) := by decide +kernel
theorem dX11_best_134 : decode cX11_best 134 = .ok (.iload 6, 2) := by decide +kernel
theorem dX11_best_136 : decode cX11_best 136 = .ok (.iload 5, 2) := by decide +kernel
theorem dX11_best_138 : decode cX11_best 138 = .ok (.if_icmp .ge 125, 3) := by decide +kernel
theorem dX11_best_141 : decode cX11_best 141 = .ok (.bipush (-3), 2) := by decide +kernel
theorem dX11_best_143 : decode cX11_best 143 = .ok (.istore 7, 2) := by decide +kernel
theorem dX11_best_145 : decode cX11_best 145 = .ok (.iload 7, 2) := by decide +kernel
theorem dX11_best_147 : decode cX11_best 147 = .ok (.iconst 3, 1) := by decide +kernel
theorem dX11_best_148 : decode cX11_best 148 = .ok (.if_icmp .gt 109, 3) := by decide +kernel
theorem dX11_best_151 : decode cX11_best 151 = .ok (.iload 6, 2) := by decide +kernel
theorem dX11_best_153 : decode cX11_best 153 = .ok (.iconst 1, 1) := by decide +kernel
theorem dX11_best_154 : decode cX11_best 154 = .ok (.iadd, 1) := by decide +kernel
theorem dX11_best_155 : decode cX11_best 155 = .ok (.istore 8, 2) := by decide +kernel
theorem dX11_best_157 : decode cX11_best 157 = .ok (.iload 8, 2) := by decide +kernel
theorem dX11_best_159 : decode cX11_best 159 = .ok (.iload 5, 2) := by decide +kernel
theorem dX11_best_161 : decode cX11_best 161 = .ok (.if_icmp .ge 90, 3) := by decide +kernel
theorem dX11_best_164 : decode cX11_best 164 = .ok (.iload 7, 2) := by decide +kernel
theorem dX11_best_166 : decode cX11_best 166 = .ok (.ifCond .eq 85, 3) := by decide +kernel
theorem dX11_best_169 : decode cX11_best 169 = .ok (.bipush (-3), 2) := by decide +kernel
theorem dX11_best_171 : decode cX11_best 171 = .ok (.istore 9, 2) := by decide +kernel
theorem dX11_best_173 : decode cX11_best 173 = .ok (.iload 9, 2) := by decide +kernel
theorem dX11_best_175 : decode cX11_best 175 = .ok (.iconst 3, 1) := by decide +kernel
theorem dX11_best_176 : decode cX11_best 176 = .ok (.if_icmp .gt 69, 3) := by decide +kernel
theorem dX11_best_179 : decode cX11_best 179 = .ok (.iload 9, 2) := by decide +kernel
theorem dX11_best_181 : decode cX11_best 181 = .ok (.ifCond .ne 7, 3) := by decide +kernel
theorem dX11_best_184 : decode cX11_best 184 = .ok (.lload_n 1, 1) := by decide +kernel
theorem dX11_best_185 : decode cX11_best 185 = .ok (.goto 15, 3) := by decide +kernel
theorem dX11_best_188 : decode cX11_best 188 = .ok (.aload_n 0, 1) := by decide +kernel
theorem dX11_best_189 : decode cX11_best 189 = .ok (.iload 6, 2) := by decide +kernel
theorem dX11_best_191 : decode cX11_best 191 = .ok (.iload 7, 2) := by decide +kernel
theorem dX11_best_193 : decode cX11_best 193 = .ok (.iload 8, 2) := by decide +kernel
theorem dX11_best_195 : decode cX11_best 195 = .ok (.iload 9, 2) := by decide +kernel
theorem dX11_best_197 : decode cX11_best 197 = .ok (.invokevirtual 213, 3) := by decide +kernel
theorem dX11_best_200 : decode cX11_best 200 = .ok (.lstore 10, 2) := by decide +kernel
theorem dX11_best_202 : decode cX11_best 202 = .ok (.lload 10, 2) := by decide +kernel
theorem dX11_best_204 : decode cX11_best 204 = .ok (.lload_n 1, 1) := by decide +kernel
theorem dX11_best_205 : decode cX11_best 205 = .ok (.lcmp, 1) := by decide +kernel
theorem dX11_best_206 : decode cX11_best 206 = .ok (.ifCond .ge 17, 3) := by decide +kernel
theorem dX11_best_209 : decode cX11_best 209 = .ok (.iload 6, 2) := by decide +kernel
theorem dX11_best_211 : decode cX11_best 211 = .ok (.iload 7, 2) := by decide +kernel
theorem dX11_best_213 : decode cX11_best 213 = .ok (.iload 8, 2) := by decide +kernel
theorem dX11_best_215 : decode cX11_best 215 = .ok (.iload 9, 2) := by decide +kernel
theorem dX11_best_217 : decode cX11_best 217 = .ok (.invokestatic 223, 3) := by decide +kernel
theorem dX11_best_220 : decode cX11_best 220 = .ok (.goto 4, 3) := by decide +kernel
theorem dX11_best_223 : decode cX11_best 223 = .ok (.lload_n 3, 1) := by decide +kernel
theorem dX11_best_224 : decode cX11_best 224 = .ok (.lstore_n 3, 1) := by decide +kernel
theorem dX11_best_225 : decode cX11_best 225 = .ok (.lload 10, 2) := by decide +kernel
theorem dX11_best_227 : decode cX11_best 227 = .ok (.lload_n 1, 1) := by decide +kernel
theorem dX11_best_228 : decode cX11_best 228 = .ok (.lcmp, 1) := by decide +kernel
theorem dX11_best_229 : decode cX11_best 229 = .ok (.ifCond .ge 8, 3) := by decide +kernel
theorem dX11_best_232 : decode cX11_best 232 = .ok (.lload 10, 2) := by decide +kernel
theorem dX11_best_234 : decode cX11_best 234 = .ok (.goto 4, 3) := by decide +kernel
theorem dX11_best_237 : decode cX11_best 237 = .ok (.lload_n 1, 1) := by decide +kernel
theorem dX11_best_238 : decode cX11_best 238 = .ok (.lstore_n 1, 1) := by decide +kernel
theorem dX11_best_239 : decode cX11_best 239 = .ok (.iinc 9 1, 3) := by decide +kernel
theorem dX11_best_242 : decode cX11_best 242 = .ok (.goto (-69), 3) := by decide +kernel
theorem dX11_best_245 : decode cX11_best 245 = .ok (.iinc 8 1, 3) := by decide +kernel
theorem dX11_best_248 : decode cX11_best 248 = .ok (.goto (-91), 3) := by decide +kernel
theorem dX11_best_251 : decode cX11_best 251 = .ok (.iinc 7 1, 3) := by decide +kernel
theorem dX11_best_254 : decode cX11_best 254 = .ok (.goto (-109), 3) := by decide +kernel
theorem dX11_best_257 : decode cX11_best 257 = .ok (.iinc 6 1, 3) := by decide +kernel
theorem dX11_best_260 : decode cX11_best 260 = .ok (.goto (-126), 3) := by decide +kernel
theorem dX11_best_263 : decode cX11_best 263 = .ok (.lload_n 3, 1) := by decide +kernel
theorem dX11_best_264 : decode cX11_best 264 = .ok (.lreturn, 1) := by decide +kernel
theorem dX11_paper_0 : decode cX11_paper 0 = .ok (.aload_n 0, 1) := by decide +kernel
theorem dX11_paper_1 : decode cX11_paper 1 = .ok (.invokevirtual 210, 3) := by decide +kernel
theorem dX11_paper_4 : decode cX11_paper 4 = .ok (.lconst 0, 1) := by decide +kernel
theorem dX11_paper_5 : decode cX11_paper 5 = .ok (.lcmp, 1) := by decide +kernel
theorem dX11_paper_6 : decode cX11_paper 6 = .ok (.ifCond .eq 12, 3) := by decide +kernel
theorem dX11_paper_9 : decode cX11_paper 9 = .ok (.aload_n 0, 1) := by decide +kernel
theorem dX11_paper_10 : decode cX11_paper 10 = .ok (.aload_n 0, 1) := by decide +kernel
theorem dX11_paper_11 : decode cX11_paper 11 = .ok (.invokevirtual 210, 3) := by decide +kernel
theorem dX11_paper_14 : decode cX11_paper 14 = .ok (.invokevirtual 64, 3) := by decide +kernel
theorem dX11_paper_17 : decode cX11_paper 17 = .ok (.lreturn, 1) := by decide +kernel
theorem dX11_paper_18 : decode cX11_paper 18 = .ok (.iconst 0, 1) := by decide +kernel
theorem dX11_paper_19 : decode cX11_paper 19 = .ok (.istore_n 1, 1) := by decide +kernel
theorem dX11_paper_20 : decode cX11_paper 20 = .ok (.iload_n 1, 1) := by decide +kernel
theorem dX11_paper_21 : decode cX11_paper 21 = .ok (.bipush 36, 2) := by decide +kernel
theorem dX11_paper_23 : decode cX11_paper 23 = .ok (.if_icmp .ge 73, 3) := by decide +kernel
theorem dX11_paper_26 : decode cX11_paper 26 = .ok (.aload_n 0, 1) := by decide +kernel
theorem dX11_paper_27 : decode cX11_paper 27 = .ok (.iload_n 1, 1) := by decide +kernel
theorem dX11_paper_28 : decode cX11_paper 28 = .ok (.invokevirtual 197, 3) := by decide +kernel
theorem dX11_paper_31 : decode cX11_paper 31 = .ok (.ifCond .ne 6, 3) := by decide +kernel
theorem dX11_paper_34 : decode cX11_paper 34 = .ok (.goto 56, 3) := by decide +kernel
theorem dX11_paper_37 : decode cX11_paper 37 = .ok (.aload_n 0, 1) := by decide +kernel
theorem dX11_paper_38 : decode cX11_paper 38 = .ok (.iload_n 1, 1) := by decide +kernel
theorem dX11_paper_39 : decode cX11_paper 39 = .ok (.invokevirtual 190, 3) := by decide +kernel
theorem dX11_paper_42 : decode cX11_paper 42 = .ok (.lstore_n 2, 1) := by decide +kernel
theorem dX11_paper_43 : decode cX11_paper 43 = .ok (.lload_n 2, 1) := by decide +kernel
theorem dX11_paper_44 : decode cX11_paper 44 = .ok (.aload_n 0, 1) := by decide +kernel
theorem dX11_paper_45 : decode cX11_paper 45 = .ok (.getfield 9, 3) := by decide +kernel
theorem dX11_paper_48 : decode cX11_paper 48 = .ok (.bipush 88, 2) := by decide +kernel
theorem dX11_paper_50 : decode cX11_paper 50 = .ok (.iload_n 1, 1) := by decide +kernel
theorem dX11_paper_51 : decode cX11_paper 51 = .ok (.iadd, 1) := by decide +kernel
theorem dX11_paper_52 : decode cX11_paper 52 = .ok (.iaload, 1) := by decide +kernel
theorem dX11_paper_53 : decode cX11_paper 53 = .ok (.i2l, 1) := by decide +kernel
theorem dX11_paper_54 : decode cX11_paper 54 = .ok (.aload_n 0, 1) := by decide +kernel
theorem dX11_paper_55 : decode cX11_paper 55 = .ok (.getfield 146, 3) := by decide +kernel
theorem dX11_paper_58 : decode cX11_paper 58 = .ok (.lmul, 1) := by decide +kernel
theorem dX11_paper_59 : decode cX11_paper 59 = .ok (.lcmp, 1) := by decide +kernel
theorem dX11_paper_60 : decode cX11_paper 60 = .ok (.ifCond .lt 23, 3) := by decide +kernel
theorem dX11_paper_63 : decode cX11_paper 63 = .ok (.lload_n 2, 1) := by decide +kernel
theorem dX11_paper_64 : decode cX11_paper 64 = .ok (.aload_n 0, 1) := by decide +kernel
theorem dX11_paper_65 : decode cX11_paper 65 = .ok (.getfield 9, 3) := by decide +kernel
theorem dX11_paper_68 : decode cX11_paper 68 = .ok (.bipush 124, 2) := by decide +kernel
theorem dX11_paper_70 : decode cX11_paper 70 = .ok (.iload_n 1, 1) := by decide +kernel
theorem dX11_paper_71 : decode cX11_paper 71 = .ok (.iadd, 1) := by decide +kernel
theorem dX11_paper_72 : decode cX11_paper 72 = .ok (.iaload, 1) := by decide +kernel
theorem dX11_paper_73 : decode cX11_paper 73 = .ok (.i2l, 1) := by decide +kernel
theorem dX11_paper_74 : decode cX11_paper 74 = .ok (.aload_n 0, 1) := by decide +kernel
theorem dX11_paper_75 : decode cX11_paper 75 = .ok (.getfield 146, 3) := by decide +kernel
theorem dX11_paper_78 : decode cX11_paper 78 = .ok (.lmul, 1) := by decide +kernel
theorem dX11_paper_79 : decode cX11_paper 79 = .ok (.lcmp, 1) := by decide +kernel
theorem dX11_paper_80 : decode cX11_paper 80 = .ok (.ifCond .le 10, 3) := by decide +kernel
theorem dX11_paper_83 : decode cX11_paper 83 = .ok (.iload_n 1, 1) := by decide +kernel
theorem dX11_paper_84 : decode cX11_paper 84 = .ok (.i2l, 1) := by decide +kernel
theorem dX11_paper_85 : decode cX11_paper 85 = .ok (.ldc2_w 219, 3) := by decide +kernel
theorem dX11_paper_88 : decode cX11_paper 88 = .ok (.lsub, 1) := by decide +kernel
theorem dX11_paper_89 : decode cX11_paper 89 = .ok (.lreturn, 1) := by decide +kernel
theorem dX11_paper_90 : decode cX11_paper 90 = .ok (.iinc 1 1, 3) := by decide +kernel
theorem dX11_paper_93 : decode cX11_paper 93 = .ok (.goto (-73), 3) := by decide +kernel
theorem dX11_paper_96 : decode cX11_paper 96 = .ok (.lconst 1, 1) := by decide +kernel
theorem dX11_paper_97 : decode cX11_paper 97 = .ok (.lreturn, 1) := by decide +kernel
theorem dX11_day_0 : decode cX11_day 0 = .ok (.iload_n 1, 1) := by decide +kernel
theorem dX11_day_1 : decode cX11_day 1 = .ok (.invokestatic 78, 3) := by decide +kernel
theorem dX11_day_4 : decode cX11_day 4 = .ok (.ifCond .eq 16, 3) := by decide +kernel
theorem dX11_day_7 : decode cX11_day 7 = .ok (.iload_n 2, 1) := by decide +kernel
theorem dX11_day_8 : decode cX11_day 8 = .ok (.sipush (-1000), 3) := by decide +kernel
theorem dX11_day_11 : decode cX11_day 11 = .ok (.sipush 1000, 3) := by decide +kernel
theorem dX11_day_14 : decode cX11_day 14 = .ok (.invokestatic 58, 3) := by decide +kernel
theorem dX11_day_17 : decode cX11_day 17 = .ok (.ifCond .ne 11, 3) := by decide +kernel
theorem dX11_day_20 : decode cX11_day 20 = .ok (.aload_n 0, 1) := by decide +kernel
theorem dX11_day_21 : decode cX11_day 21 = .ok (.ldc2_w 62, 3) := by decide +kernel
theorem dX11_day_24 : decode cX11_day 24 = .ok (.invokevirtual 64, 3) := by decide +kernel
theorem dX11_day_27 : decode cX11_day 27 = .ok (.lreturn, 1) := by decide +kernel
theorem dX11_day_28 : decode cX11_day 28 = .ok (.aload_n 0, 1) := by decide +kernel
theorem dX11_day_29 : decode cX11_day 29 = .ok (.getfield 226, 3) := by decide +kernel
theorem dX11_day_32 : decode cX11_day 32 = .ok (.bipush 60, 2) := by decide +kernel
theorem dX11_day_34 : decode cX11_day 34 = .ok (.if_icmp .ne 11, 3) := by decide +kernel
theorem dX11_day_37 : decode cX11_day 37 = .ok (.aload_n 0, 1) := by decide +kernel
theorem dX11_day_38 : decode cX11_day 38 = .ok (.ldc2_w 68, 3) := by decide +kernel
theorem dX11_day_41 : decode cX11_day 41 = .ok (.invokevirtual 64, 3) := by decide +kernel
theorem dX11_day_44 : decode cX11_day 44 = .ok (.lreturn, 1) := by decide +kernel
theorem dX11_day_45 : decode cX11_day 45 = .ok (.aload_n 0, 1) := by decide +kernel
theorem dX11_day_46 : decode cX11_day 46 = .ok (.getfield 22, 3) := by decide +kernel
theorem dX11_day_49 : decode cX11_day 49 = .ok (.aload_n 0, 1) := by decide +kernel
theorem dX11_day_50 : decode cX11_day 50 = .ok (.getfield 226, 3) := by decide +kernel
theorem dX11_day_53 : decode cX11_day 53 = .ok (.iload_n 1, 1) := by decide +kernel
theorem dX11_day_54 : decode cX11_day 54 = .ok (.iastore, 1) := by decide +kernel
theorem dX11_day_55 : decode cX11_day 55 = .ok (.aload_n 0, 1) := by decide +kernel
theorem dX11_day_56 : decode cX11_day 56 = .ok (.getfield 25, 3) := by decide +kernel
theorem dX11_day_59 : decode cX11_day 59 = .ok (.aload_n 0, 1) := by decide +kernel
theorem dX11_day_60 : decode cX11_day 60 = .ok (.getfield 226, 3) := by decide +kernel
theorem dX11_day_63 : decode cX11_day 63 = .ok (.iload_n 2, 1) := by decide +kernel
theorem dX11_day_64 : decode cX11_day 64 = .ok (.iastore, 1) := by decide +kernel
theorem dX11_day_65 : decode cX11_day 65 = .ok (.aload_n 0, 1) := by decide +kernel
theorem dX11_day_66 : decode cX11_day 66 = .ok (.dup, 1) := by decide +kernel
theorem dX11_day_67 : decode cX11_day 67 = .ok (.getfield 226, 3) := by decide +kernel
theorem dX11_day_70 : decode cX11_day 70 = .ok (.iconst 1, 1) := by decide +kernel
theorem dX11_day_71 : decode cX11_day 71 = .ok (.iadd, 1) := by decide +kernel
theorem dX11_day_72 : decode cX11_day 72 = .ok (.putfield 226, 3) := by decide +kernel
theorem dX11_day_75 : decode cX11_day 75 = .ok (.aload_n 0, 1) := by decide +kernel
theorem dX11_day_76 : decode cX11_day 76 = .ok (.getfield 226, 3) := by decide +kernel
theorem dX11_day_79 : decode cX11_day 79 = .ok (.i2l, 1) := by decide +kernel
theorem dX11_day_80 : decode cX11_day 80 = .ok (.lreturn, 1) := by decide +kernel
theorem dX11_anew_0 : decode cX11_anew 0 = .ok (.aload_n 0, 1) := by decide +kernel
theorem dX11_anew_1 : decode cX11_anew 1 = .ok (.getfield 226, 3) := by decide +kernel
theorem dX11_anew_4 : decode cX11_anew 4 = .ok (.istore_n 1, 1) := by decide +kernel
theorem dX11_anew_5 : decode cX11_anew 5 = .ok (.aload_n 0, 1) := by decide +kernel
theorem dX11_anew_6 : decode cX11_anew 6 = .ok (.iconst 0, 1) := by decide +kernel
theorem dX11_anew_7 : decode cX11_anew 7 = .ok (.putfield 226, 3) := by decide +kernel
theorem dX11_anew_10 : decode cX11_anew 10 = .ok (.iload_n 1, 1) := by decide +kernel
theorem dX11_anew_11 : decode cX11_anew 11 = .ok (.i2l, 1) := by decide +kernel
theorem dX11_anew_12 : decode cX11_anew 12 = .ok (.lreturn, 1) := by decide +kernel
theorem dX11_isAt_0 : decode cX11_isAt 0 = .ok (.iload_n 2, 1) := by decide +kernel
theorem dX11_isAt_1 : decode cX11_isAt 1 = .ok (.ifCond .lt 16, 3) := by decide +kernel
theorem dX11_isAt_4 : decode cX11_isAt 4 = .ok (.aload_n 0, 1) := by decide +kernel
theorem dX11_isAt_5 : decode cX11_isAt 5 = .ok (.getfield 22, 3) := by decide +kernel
theorem dX11_isAt_8 : decode cX11_isAt 8 = .ok (.iload_n 1, 1) := by decide +kernel
theorem dX11_isAt_9 : decode cX11_isAt 9 = .ok (.iaload, 1) := by decide +kernel
theorem dX11_isAt_10 : decode cX11_isAt 10 = .ok (.bipush 6, 2) := by decide +kernel
theorem dX11_isAt_12 : decode cX11_isAt 12 = .ok (.idiv, 1) := by decide +kernel
theorem dX11_isAt_13 : decode cX11_isAt 13 = .ok (.iload_n 2, 1) := by decide +kernel
theorem dX11_isAt_14 : decode cX11_isAt 14 = .ok (.if_icmp .ne 7, 3) := by decide +kernel
theorem dX11_isAt_17 : decode cX11_isAt 17 = .ok (.iconst 1, 1) := by decide +kernel
theorem dX11_isAt_18 : decode cX11_isAt 18 = .ok (.goto 4, 3) := by decide +kernel
theorem dX11_isAt_21 : decode cX11_isAt 21 = .ok (.iconst 0, 1) := by decide +kernel
theorem dX11_isAt_22 : decode cX11_isAt 22 = .ok (.ireturn, 1) := by decide +kernel
theorem dX11_mean_0 : decode cX11_mean 0 = .ok (.iload_n 1, 1) := by decide +kernel
theorem dX11_mean_1 : decode cX11_mean 1 = .ok (.iconst (-1), 1) := by decide +kernel
theorem dX11_mean_2 : decode cX11_mean 2 = .ok (.iconst 5, 1) := by decide +kernel
theorem dX11_mean_3 : decode cX11_mean 3 = .ok (.invokestatic 58, 3) := by decide +kernel
theorem dX11_mean_6 : decode cX11_mean 6 = .ok (.ifCond .ne 11, 3) := by decide +kernel
theorem dX11_mean_9 : decode cX11_mean 9 = .ok (.aload_n 0, 1) := by decide +kernel
theorem dX11_mean_10 : decode cX11_mean 10 = .ok (.ldc2_w 62, 3) := by decide +kernel
theorem dX11_mean_13 : decode cX11_mean 13 = .ok (.invokevirtual 64, 3) := by decide +kernel
theorem dX11_mean_16 : decode cX11_mean 16 = .ok (.lreturn, 1) := by decide +kernel
theorem dX11_mean_17 : decode cX11_mean 17 = .ok (.lconst 0, 1) := by decide +kernel
theorem dX11_mean_18 : decode cX11_mean 18 = .ok (.lstore_n 3, 1) := by decide +kernel
theorem dX11_mean_19 : decode cX11_mean 19 = .ok (.lconst 0, 1) := by decide +kernel
theorem dX11_mean_20 : decode cX11_mean 20 = .ok (.lstore 5, 2) := by decide +kernel
theorem dX11_mean_22 : decode cX11_mean 22 = .ok (.iconst 0, 1) := by decide +kernel
theorem dX11_mean_23 : decode cX11_mean 23 = .ok (.istore 7, 2) := by decide +kernel
theorem dX11_mean_25 : decode cX11_mean 25 = .ok (.iload 7, 2) := by decide +kernel
theorem dX11_mean_27 : decode cX11_mean 27 = .ok (.aload_n 0, 1) := by decide +kernel
theorem dX11_mean_28 : decode cX11_mean 28 = .ok (.getfield 226, 3) := by decide +kernel
theorem dX11_mean_31 : decode cX11_mean 31 = .ok (.if_icmp .ge 54, 3) := by decide +kernel
theorem dX11_mean_34 : decode cX11_mean 34 = .ok (.lload_n 3, 1) := by decide +kernel
theorem dX11_mean_35 : decode cX11_mean 35 = .ok (.aload_n 0, 1) := by decide +kernel
theorem dX11_mean_36 : decode cX11_mean 36 = .ok (.iload 7, 2) := by decide +kernel
theorem dX11_mean_38 : decode cX11_mean 38 = .ok (.iload_n 1, 1) := by decide +kernel
theorem dX11_mean_39 : decode cX11_mean 39 = .ok (.invokevirtual 229, 3) := by decide +kernel
theorem dX11_mean_42 : decode cX11_mean 42 = .ok (.ifCond .eq 14, 3) := by decide +kernel
theorem dX11_mean_45 : decode cX11_mean 45 = .ok (.aload_n 0, 1) := by decide +kernel
theorem dX11_mean_46 : decode cX11_mean 46 = .ok (.getfield 25, 3) := by decide +kernel
theorem dX11_mean_49 : decode cX11_mean 49 = .ok (.iload 7, 2) := by decide +kernel
theorem dX11_mean_51 : decode cX11_mean 51 = .ok (.iaload, 1) := by decide +kernel
theorem dX11_mean_52 : decode cX11_mean 52 = .ok (.i2l, 1) := by decide +kernel
theorem dX11_mean_53 : decode cX11_mean 53 = .ok (.goto 4, 3) := by decide +kernel
theorem dX11_mean_56 : decode cX11_mean 56 = .ok (.lconst 0, 1) := by decide +kernel
theorem dX11_mean_57 : decode cX11_mean 57 = .ok (.ladd, 1) := by decide +kernel
theorem dX11_mean_58 : decode cX11_mean 58 = .ok (.lstore_n 3, 1) := by decide +kernel
theorem dX11_mean_59 : decode cX11_mean 59 = .ok (.lload 5, 2) := by decide +kernel
theorem dX11_mean_61 : decode cX11_mean 61 = .ok (.aload_n 0, 1) := by decide +kernel
theorem dX11_mean_62 : decode cX11_mean 62 = .ok (.iload 7, 2) := by decide +kernel
theorem dX11_mean_64 : decode cX11_mean 64 = .ok (.iload_n 1, 1) := by decide +kernel
theorem dX11_mean_65 : decode cX11_mean 65 = .ok (.invokevirtual 229, 3) := by decide +kernel
theorem dX11_mean_68 : decode cX11_mean 68 = .ok (.ifCond .eq 7, 3) := by decide +kernel
theorem dX11_mean_71 : decode cX11_mean 71 = .ok (.lconst 1, 1) := by decide +kernel
theorem dX11_mean_72 : decode cX11_mean 72 = .ok (.goto 4, 3) := by decide +kernel
theorem dX11_mean_75 : decode cX11_mean 75 = .ok (.lconst 0, 1) := by decide +kernel
theorem dX11_mean_76 : decode cX11_mean 76 = .ok (.ladd, 1) := by decide +kernel
theorem dX11_mean_77 : decode cX11_mean 77 = .ok (.lstore 5, 2) := by decide +kernel
theorem dX11_mean_79 : decode cX11_mean 79 = .ok (.iinc 7 1, 3) := by decide +kernel
theorem dX11_mean_82 : decode cX11_mean 82 = .ok (.goto (-57), 3) := by decide +kernel
theorem dX11_mean_85 : decode cX11_mean 85 = .ok (.lload 5, 2) := by decide +kernel
theorem dX11_mean_87 : decode cX11_mean 87 = .ok (.lconst 0, 1) := by decide +kernel
theorem dX11_mean_88 : decode cX11_mean 88 = .ok (.lcmp, 1) := by decide +kernel
theorem dX11_mean_89 : decode cX11_mean 89 = .ok (.ifCond .ne 13, 3) := by decide +kernel
theorem dX11_mean_92 : decode cX11_mean 92 = .ok (.aload_n 0, 1) := by decide +kernel
theorem dX11_mean_93 : decode cX11_mean 93 = .ok (.ldc2_w 176, 3) := by decide +kernel
theorem dX11_mean_96 : decode cX11_mean 96 = .ok (.invokevirtual 64, 3) := by decide +kernel
theorem dX11_mean_99 : decode cX11_mean 99 = .ok (.goto 10, 3) := by decide +kernel
theorem dX11_mean_102 : decode cX11_mean 102 = .ok (.lload_n 3, 1) := by decide +kernel
theorem dX11_mean_103 : decode cX11_mean 103 = .ok (.lload 5, 2) := by decide +kernel
theorem dX11_mean_105 : decode cX11_mean 105 = .ok (.iload_n 2, 1) := by decide +kernel
theorem dX11_mean_106 : decode cX11_mean 106 = .ok (.invokestatic 186, 3) := by decide +kernel
theorem dX11_mean_109 : decode cX11_mean 109 = .ok (.lreturn, 1) := by decide +kernel
theorem dX11_change_0 : decode cX11_change 0 = .ok (.iload_n 1, 1) := by decide +kernel
theorem dX11_change_1 : decode cX11_change 1 = .ok (.iconst (-1), 1) := by decide +kernel
theorem dX11_change_2 : decode cX11_change 2 = .ok (.iconst 5, 1) := by decide +kernel
theorem dX11_change_3 : decode cX11_change 3 = .ok (.invokestatic 58, 3) := by decide +kernel
theorem dX11_change_6 : decode cX11_change 6 = .ok (.ifCond .ne 11, 3) := by decide +kernel
theorem dX11_change_9 : decode cX11_change 9 = .ok (.aload_n 0, 1) := by decide +kernel
theorem dX11_change_10 : decode cX11_change 10 = .ok (.ldc2_w 62, 3) := by decide +kernel
theorem dX11_change_13 : decode cX11_change 13 = .ok (.invokevirtual 64, 3) := by decide +kernel
theorem dX11_change_16 : decode cX11_change 16 = .ok (.lreturn, 1) := by decide +kernel
theorem dX11_change_17 : decode cX11_change 17 = .ok (.iconst (-1), 1) := by decide +kernel
theorem dX11_change_18 : decode cX11_change 18 = .ok (.istore_n 2, 1) := by decide +kernel
theorem dX11_change_19 : decode cX11_change 19 = .ok (.iconst (-1), 1) := by decide +kernel
theorem dX11_change_20 : decode cX11_change 20 = .ok (.istore_n 3, 1) := by decide +kernel
theorem dX11_change_21 : decode cX11_change 21 = .ok (.iconst 0, 1) := by decide +kernel
theorem dX11_change_22 : decode cX11_change 22 = .ok (.istore 4, 2) := by decide +kernel
theorem dX11_change_24 : decode cX11_change 24 = .ok (.iload 4, 2) := by decide +kernel
theorem dX11_change_26 : decode cX11_change 26 = .ok (.aload_n 0, 1) := by decide +kernel
theorem dX11_change_27 : decode cX11_change 27 = .ok (.getfield 226, 3) := by decide +kernel
theorem dX11_change_30 : decode cX11_change 30 = .ok (.if_icmp .ge 73, 3) := by decide +kernel
theorem dX11_change_33 : decode cX11_change 33 = .ok (.aload_n 0, 1) := by decide +kernel
theorem dX11_change_34 : decode cX11_change 34 = .ok (.iload 4, 2) := by decide +kernel
theorem dX11_change_36 : decode cX11_change 36 = .ok (.iload_n 1, 1) := by decide +kernel
theorem dX11_change_37 : decode cX11_change 37 = .ok (.invokevirtual 229, 3) := by decide +kernel
theorem dX11_change_40 : decode cX11_change 40 = .ok (.ifCond .ne 6, 3) := by decide +kernel
theorem dX11_change_43 : decode cX11_change 43 = .ok (.goto 54, 3) := by decide +kernel
theorem dX11_change_46 : decode cX11_change 46 = .ok (.iload_n 2, 1) := by decide +kernel
theorem dX11_change_47 : decode cX11_change 47 = .ok (.ifCond .lt 47, 3) := by decide +kernel
theorem dX11_change_50 : decode cX11_change 50 = .ok (.aload_n 0, 1) := by decide +kernel
theorem dX11_change_51 : decode cX11_change 51 = .ok (.getfield 25, 3) := by decide +kernel
theorem dX11_change_54 : decode cX11_change 54 = .ok (.iload 4, 2) := by decide +kernel
theorem dX11_change_56 : decode cX11_change 56 = .ok (.iaload, 1) := by decide +kernel
theorem dX11_change_57 : decode cX11_change 57 = .ok (.aload_n 0, 1) := by decide +kernel
theorem dX11_change_58 : decode cX11_change 58 = .ok (.getfield 25, 3) := by decide +kernel
theorem dX11_change_61 : decode cX11_change 61 = .ok (.iload_n 2, 1) := by decide +kernel
theorem dX11_change_62 : decode cX11_change 62 = .ok (.iaload, 1) := by decide +kernel
theorem dX11_change_63 : decode cX11_change 63 = .ok (.isub, 1) := by decide +kernel
theorem dX11_change_64 : decode cX11_change 64 = .ok (.istore 5, 2) := by decide +kernel
theorem dX11_change_66 : decode cX11_change 66 = .ok (.iload 5, 2) := by decide +kernel
theorem dX11_change_68 : decode cX11_change 68 = .ok (.ifCond .ge 9, 3) := by decide +kernel
theorem dX11_change_71 : decode cX11_change 71 = .ok (.iload 5, 2) := by decide +kernel
theorem dX11_change_73 : decode cX11_change 73 = .ok (.ineg, 1) := by decide +kernel
theorem dX11_change_74 : decode cX11_change 74 = .ok (.goto 5, 3) := by decide +kernel
theorem dX11_change_77 : decode cX11_change 77 = .ok (.iload 5, 2) := by decide +kernel
theorem dX11_change_79 : decode cX11_change 79 = .ok (.istore 5, 2) := by decide +kernel
theorem dX11_change_81 : decode cX11_change 81 = .ok (.iload 5, 2) := by decide +kernel
theorem dX11_change_83 : decode cX11_change 83 = .ok (.iload_n 3, 1) := by decide +kernel
theorem dX11_change_84 : decode cX11_change 84 = .ok (.if_icmp .le 8, 3) := by decide +kernel
theorem dX11_change_87 : decode cX11_change 87 = .ok (.iload 5, 2) := by decide +kernel
theorem dX11_change_89 : decode cX11_change 89 = .ok (.goto 4, 3) := by decide +kernel
theorem dX11_change_92 : decode cX11_change 92 = .ok (.iload_n 3, 1) := by decide +kernel
theorem dX11_change_93 : decode cX11_change 93 = .ok (.istore_n 3, 1) := by decide +kernel
theorem dX11_change_94 : decode cX11_change 94 = .ok (.iload 4, 2) := by decide +kernel
theorem dX11_change_96 : decode cX11_change 96 = .ok (.istore_n 2, 1) := by decide +kernel
theorem dX11_change_97 : decode cX11_change 97 = .ok (.iinc 4 1, 3) := by decide +kernel
theorem dX11_change_100 : decode cX11_change 100 = .ok (.goto (-76), 3) := by decide +kernel
theorem dX11_change_103 : decode cX11_change 103 = .ok (.iload_n 3, 1) := by decide +kernel
theorem dX11_change_104 : decode cX11_change 104 = .ok (.ifCond .ge 13, 3) := by decide +kernel
theorem dX11_change_107 : decode cX11_change 107 = .ok (.aload_n 0, 1) := by decide +kernel
theorem dX11_change_108 : decode cX11_change 108 = .ok (.ldc2_w 176, 3) := by decide +kernel
theorem dX11_change_111 : decode cX11_change 111 = .ok (.invokevirtual 64, 3) := by decide +kernel
theorem dX11_change_114 : decode cX11_change 114 = .ok (.goto 5, 3) := by decide +kernel
theorem dX11_change_117 : decode cX11_change 117 = .ok (.iload_n 3, 1) := by decide +kernel
theorem dX11_change_118 : decode cX11_change 118 = .ok (.i2l, 1) := by decide +kernel
theorem dX11_change_119 : decode cX11_change 119 = .ok (.lreturn, 1) := by decide +kernel
theorem dX11_tell_0 : decode cX11_tell 0 = .ok (.aload_n 0, 1) := by decide +kernel
theorem dX11_tell_1 : decode cX11_tell 1 = .ok (.getfield 233, 3) := by decide +kernel
theorem dX11_tell_4 : decode cX11_tell 4 = .ok (.bipush 16, 2) := by decide +kernel
theorem dX11_tell_6 : decode cX11_tell 6 = .ok (.if_icmp .ne 11, 3) := by decide +kernel
theorem dX11_tell_9 : decode cX11_tell 9 = .ok (.aload_n 0, 1) := by decide +kernel
theorem dX11_tell_10 : decode cX11_tell 10 = .ok (.ldc2_w 68, 3) := by decide +kernel
theorem dX11_tell_13 : decode cX11_tell 13 = .ok (.invokevirtual 64, 3) := by decide +kernel
theorem dX11_tell_16 : decode cX11_tell 16 = .ok (.lreturn, 1) := by decide +kernel
theorem dX11_tell_17 : decode cX11_tell 17 = .ok (.aload_n 0, 1) := by decide +kernel
theorem dX11_tell_18 : decode cX11_tell 18 = .ok (.getfield 28, 3) := by decide +kernel
theorem dX11_tell_21 : decode cX11_tell 21 = .ok (.aload_n 0, 1) := by decide +kernel
theorem dX11_tell_22 : decode cX11_tell 22 = .ok (.getfield 233, 3) := by decide +kernel
theorem dX11_tell_25 : decode cX11_tell 25 = .ok (.iload_n 1, 1) := by decide +kernel
theorem dX11_tell_26 : decode cX11_tell 26 = .ok (.iastore, 1) := by decide +kernel
theorem dX11_tell_27 : decode cX11_tell 27 = .ok (.aload_n 0, 1) := by decide +kernel
theorem dX11_tell_28 : decode cX11_tell 28 = .ok (.dup, 1) := by decide +kernel
theorem dX11_tell_29 : decode cX11_tell 29 = .ok (.getfield 233, 3) := by decide +kernel
theorem dX11_tell_32 : decode cX11_tell 32 = .ok (.iconst 1, 1) := by decide +kernel
theorem dX11_tell_33 : decode cX11_tell 33 = .ok (.iadd, 1) := by decide +kernel
theorem dX11_tell_34 : decode cX11_tell 34 = .ok (.putfield 233, 3) := by decide +kernel
theorem dX11_tell_37 : decode cX11_tell 37 = .ok (.aload_n 0, 1) := by decide +kernel
theorem dX11_tell_38 : decode cX11_tell 38 = .ok (.getfield 233, 3) := by decide +kernel
theorem dX11_tell_41 : decode cX11_tell 41 = .ok (.i2l, 1) := by decide +kernel
theorem dX11_tell_42 : decode cX11_tell 42 = .ok (.lreturn, 1) := by decide +kernel
theorem dX11_isFraction_0 : decode cX11_isFraction 0 = .ok (.iload_n 1, 1) := by decide +kernel
theorem dX11_isFraction_1 : decode cX11_isFraction 1 = .ok (.ifCond .eq 13, 3) := by decide +kernel
theorem dX11_isFraction_4 : decode cX11_isFraction 4 = .ok (.iload_n 1, 1) := by decide +kernel
theorem dX11_isFraction_5 : decode cX11_isFraction 5 = .ok (.i2l, 1) := by decide +kernel
theorem dX11_isFraction_6 : decode cX11_isFraction 6 = .ok (.lload 4, 2) := by decide +kernel
theorem dX11_isFraction_8 : decode cX11_isFraction 8 = .ok (.lrem, 1) := by decide +kernel
theorem dX11_isFraction_9 : decode cX11_isFraction 9 = .ok (.lconst 0, 1) := by decide +kernel
theorem dX11_isFraction_10 : decode cX11_isFraction 10 = .ok (.lcmp, 1) := by decide +kernel
theorem dX11_isFraction_11 : decode cX11_isFraction 11 = .ok (.ifCond .eq 5, 3) := by decide +kernel
theorem dX11_isFraction_14 : decode cX11_isFraction 14 = .ok (.iconst 0, 1) := by decide +kernel
theorem dX11_isFraction_15 : decode cX11_isFraction 15 = .ok (.ireturn, 1) := by decide +kernel
theorem dX11_isFraction_16 : decode cX11_isFraction 16 = .ok (.iload_n 1, 1) := by decide +kernel
theorem dX11_isFraction_17 : decode cX11_isFraction 17 = .ok (.i2l, 1) := by decide +kernel
theorem dX11_isFraction_18 : decode cX11_isFraction 18 = .ok (.lload 4, 2) := by decide +kernel
theorem dX11_isFraction_20 : decode cX11_isFraction 20 = .ok (.ldiv, 1) := by decide +kernel
theorem dX11_isFraction_21 : decode cX11_isFraction 21 = .ok (.lstore 6, 2) := by decide +kernel
theorem dX11_isFraction_23 : decode cX11_isFraction 23 = .ok (.lload_n 2, 1) := by decide +kernel
theorem dX11_isFraction_24 : decode cX11_isFraction 24 = .ok (.ldc2_w 236, 3) := by decide +kernel
theorem dX11_isFraction_27 : decode cX11_isFraction 27 = .ok (.lcmp, 1) := by decide +kernel
theorem dX11_isFraction_28 : decode cX11_isFraction 28 = .ok (.ifCond .gt 25, 3) := by decide +kernel
theorem dX11_isFraction_31 : decode cX11_isFraction 31 = .ok (.lload_n 2, 1) := by decide +kernel
theorem dX11_isFraction_32 : decode cX11_isFraction 32 = .ok (.ldc2_w 238, 3) := by decide +kernel
theorem dX11_isFraction_35 : decode cX11_isFraction 35 = .ok (.lcmp, 1) := by decide +kernel
theorem dX11_isFraction_36 : decode cX11_isFraction 36 = .ok (.ifCond .lt 17, 3) := by decide +kernel
theorem dX11_isFraction_39 : decode cX11_isFraction 39 = .ok (.lload_n 2, 1) := by decide +kernel
theorem dX11_isFraction_40 : decode cX11_isFraction 40 = .ok (.lload 6, 2) := by decide +kernel
theorem dX11_isFraction_42 : decode cX11_isFraction 42 = .ok (.lmul, 1) := by decide +kernel
theorem dX11_isFraction_43 : decode cX11_isFraction 43 = .ok (.iload_n 0, 1) := by decide +kernel
theorem dX11_isFraction_44 : decode cX11_isFraction 44 = .ok (.i2l, 1) := by decide +kernel
theorem dX11_isFraction_45 : decode cX11_isFraction 45 = .ok (.lcmp, 1) := by decide +kernel
theorem dX11_isFraction_46 : decode cX11_isFraction 46 = .ok (.ifCond .ne 7, 3) := by decide +kernel
theorem dX11_isFraction_49 : decode cX11_isFraction 49 = .ok (.iconst 1, 1) := by decide +kernel
theorem dX11_isFraction_50 : decode cX11_isFraction 50 = .ok (.goto 4, 3) := by decide +kernel
theorem dX11_isFraction_53 : decode cX11_isFraction 53 = .ok (.iconst 0, 1) := by decide +kernel
theorem dX11_isFraction_54 : decode cX11_isFraction 54 = .ok (.ireturn, 1) := by decide +kernel
theorem dX11_check_0 : decode cX11_check 0 = .ok (.aload_n 0, 1) := by decide +kernel
theorem dX11_check_1 : decode cX11_check 1 = .ok (.getfield 233, 3) := by decide +kernel
theorem dX11_check_4 : decode cX11_check 4 = .ok (.istore_n 1, 1) := by decide +kernel
theorem dX11_check_5 : decode cX11_check 5 = .ok (.aload_n 0, 1) := by decide +kernel
theorem dX11_check_6 : decode cX11_check 6 = .ok (.iconst 0, 1) := by decide +kernel
theorem dX11_check_7 : decode cX11_check 7 = .ok (.putfield 233, 3) := by decide +kernel
theorem dX11_check_10 : decode cX11_check 10 = .ok (.aload_n 0, 1) := by decide +kernel
theorem dX11_check_11 : decode cX11_check 11 = .ok (.invokevirtual 180, 3) := by decide +kernel
theorem dX11_check_14 : decode cX11_check 14 = .ok (.lconst 0, 1) := by decide +kernel
theorem dX11_check_15 : decode cX11_check 15 = .ok (.lcmp, 1) := by decide +kernel
theorem dX11_check_16 : decode cX11_check 16 = .ok (.ifCond .eq 12, 3) := by decide +kernel
theorem dX11_check_19 : decode cX11_check 19 = .ok (.aload_n 0, 1) := by decide +kernel
theorem dX11_check_20 : decode cX11_check 20 = .ok (.aload_n 0, 1) := by decide +kernel
theorem dX11_check_21 : decode cX11_check 21 = .ok (.invokevirtual 180, 3) := by decide +kernel
theorem dX11_check_24 : decode cX11_check 24 = .ok (.invokevirtual 64, 3) := by decide +kernel
theorem dX11_check_27 : decode cX11_check 27 = .ok (.lreturn, 1) := by decide +kernel
theorem dX11_check_28 : decode cX11_check 28 = .ok (.iconst 0, 1) := by decide +kernel
theorem dX11_check_29 : decode cX11_check 29 = .ok (.istore_n 2, 1) := by decide +kernel
theorem dX11_check_30 : decode cX11_check 30 = .ok (.iload_n 2, 1) := by decide +kernel
theorem dX11_check_31 : decode cX11_check 31 = .ok (.aload_n 0, 1) := by decide +kernel
theorem dX11_check_32 : decode cX11_check 32 = .ok (.getfield 143, 3) := by decide +kernel
theorem dX11_check_35 : decode cX11_check 35 = .ok (.if_icmp .ge 81, 3) := by decide +kernel
theorem dX11_check_38 : decode cX11_check 38 = .ok (.aload_n 0, 1) := by decide +kernel
theorem dX11_check_39 : decode cX11_check 39 = .ok (.getfield 38, 3) := by decide +kernel
theorem dX11_check_42 : decode cX11_check 42 = .ok (.iload_n 2, 1) := by decide +kernel
theorem dX11_check_43 : decode cX11_check 43 = .ok (.laload, 1) := by decide +kernel
theorem dX11_check_44 : decode cX11_check 44 = .ok (.aload_n 0, 1) := by decide +kernel
theorem dX11_check_45 : decode cX11_check 45 = .ok (.getfield 146, 3) := by decide +kernel
theorem dX11_check_48 : decode cX11_check 48 = .ok (.iconst 0, 1) := by decide +kernel
theorem dX11_check_49 : decode cX11_check 49 = .ok (.invokestatic 186, 3) := by decide +kernel
theorem dX11_check_52 : decode cX11_check 52 = .ok (.lstore_n 3, 1) := by decide +kernel
theorem dX11_check_53 : decode cX11_check 53 = .ok (.aload_n 0, 1) := by decide +kernel
theorem dX11_check_54 : decode cX11_check 54 = .ok (.getfield 38, 3) := by decide +kernel
theorem dX11_check_57 : decode cX11_check 57 = .ok (.iload_n 2, 1) := by decide +kernel
theorem dX11_check_58 : decode cX11_check 58 = .ok (.laload, 1) := by decide +kernel
theorem dX11_check_59 : decode cX11_check 59 = .ok (.aload_n 0, 1) := by decide +kernel
theorem dX11_check_60 : decode cX11_check 60 = .ok (.getfield 146, 3) := by decide +kernel
theorem dX11_check_63 : decode cX11_check 63 = .ok (.iconst 1, 1) := by decide +kernel
theorem dX11_check_64 : decode cX11_check 64 = .ok (.invokestatic 186, 3) := by decide +kernel
theorem dX11_check_67 : decode cX11_check 67 = .ok (.lstore 5, 2) := by decide +kernel
theorem dX11_check_69 : decode cX11_check 69 = .ok (.iconst 2, 1) := by decide +kernel
theorem dX11_check_70 : decode cX11_check 70 = .ok (.iload_n 2, 1) := by decide +kernel
theorem dX11_check_71 : decode cX11_check 71 = .ok (.imul, 1) := by decide +kernel
theorem dX11_check_72 : decode cX11_check 72 = .ok (.iconst 1, 1) := by decide +kernel
theorem dX11_check_73 : decode cX11_check 73 = .ok (.iadd, 1) := by decide +kernel
theorem dX11_check_74 : decode cX11_check 74 = .ok (.iload_n 1, 1) := by decide +kernel
theorem dX11_check_75 : decode cX11_check 75 = .ok (.if_icmp .ge 30, 3) := by decide +kernel
theorem dX11_check_78 : decode cX11_check 78 = .ok (.aload_n 0, 1) := by decide +kernel
theorem dX11_check_79 : decode cX11_check 79 = .ok (.getfield 28, 3) := by decide +kernel
theorem dX11_check_82 : decode cX11_check 82 = .ok (.iconst 2, 1) := by decide +kernel
theorem dX11_check_83 : decode cX11_check 83 = .ok (.iload_n 2, 1) := by decide +kernel
theorem dX11_check_84 : decode cX11_check 84 = .ok (.imul, 1) := by decide +kernel
theorem dX11_check_85 : decode cX11_check 85 = .ok (.iaload, 1) := by decide +kernel
theorem dX11_check_86 : decode cX11_check 86 = .ok (.aload_n 0, 1) := by decide +kernel
theorem dX11_check_87 : decode cX11_check 87 = .ok (.getfield 28, 3) := by decide +kernel
theorem dX11_check_90 : decode cX11_check 90 = .ok (.iconst 2, 1) := by decide +kernel
theorem dX11_check_91 : decode cX11_check 91 = .ok (.iload_n 2, 1) := by decide +kernel
theorem dX11_check_92 : decode cX11_check 92 = .ok (.imul, 1) := by decide +kernel
theorem dX11_check_93 : decode cX11_check 93 = .ok (.iconst 1, 1) := by decide +kernel
theorem dX11_check_94 : decode cX11_check 94 = .ok (.iadd, 1) := by decide +kernel
theorem dX11_check_95 : decode cX11_check 95 = .ok (.iaload, 1) := by decide +kernel
theorem dX11_check_96 : decode cX11_check 96 = .ok (.lload_n 3, 1) := by decide +kernel
theorem dX11_check_97 : decode cX11_check 97 = .ok (.lload 5, 2) := by decide +kernel
theorem dX11_check_99 : decode cX11_check 99 = .ok (.invokestatic 240, 3) := by decide +kernel
theorem dX11_check_102 : decode cX11_check 102 = .ok (.ifCond .ne 8, 3) := by decide +kernel
theorem dX11_check_105 : decode cX11_check 105 = .ok (.iconst 1, 1) := by decide +kernel
theorem dX11_check_106 : decode cX11_check 106 = .ok (.iload_n 2, 1) := by decide +kernel
theorem dX11_check_107 : decode cX11_check 107 = .ok (.iadd, 1) := by decide +kernel
theorem dX11_check_108 : decode cX11_check 108 = .ok (.i2l, 1) := by decide +kernel
theorem dX11_check_109 : decode cX11_check 109 = .ok (.lreturn, 1) := by decide +kernel
theorem dX11_check_110 : decode cX11_check 110 = .ok (.iinc 2 1, 3) := by decide +kernel
theorem dX11_check_113 : decode cX11_check 113 = .ok (.goto (-83), 3) := by decide +kernel
theorem dX11_check_116 : decode cX11_check 116 = .ok (.iload_n 1, 1) := by decide +kernel
theorem dX11_check_117 : decode cX11_check 117 = .ok (.iconst 2, 1) := by decide +kernel
theorem dX11_check_118 : decode cX11_check 118 = .ok (.aload_n 0, 1) := by decide +kernel
theorem dX11_check_119 : decode cX11_check 119 = .ok (.getfield 143, 3) := by decide +kernel
theorem dX11_check_122 : decode cX11_check 122 = .ok (.imul, 1) := by decide +kernel
theorem dX11_check_123 : decode cX11_check 123 = .ok (.if_icmp .le 9, 3) := by decide +kernel
theorem dX11_check_126 : decode cX11_check 126 = .ok (.ldc2_w 244, 3) := by decide +kernel
theorem dX11_check_129 : decode cX11_check 129 = .ok (.goto 4, 3) := by decide +kernel
theorem dX11_check_132 : decode cX11_check 132 = .ok (.lconst 0, 1) := by decide +kernel
theorem dX11_check_133 : decode cX11_check 133 = .ok (.lreturn, 1) := by decide +kernel
theorem dX11_keep_0 : decode cX11_keep 0 = .ok (.iconst 0, 1) := by decide +kernel
theorem dX11_keep_1 : decode cX11_keep 1 = .ok (.istore_n 1, 1) := by decide +kernel
theorem dX11_keep_2 : decode cX11_keep 2 = .ok (.iload_n 1, 1) := by decide +kernel
theorem dX11_keep_3 : decode cX11_keep 3 = .ok (.sipush 160, 3) := by decide +kernel
theorem dX11_keep_6 : decode cX11_keep 6 = .ok (.if_icmp .ge 21, 3) := by decide +kernel
theorem dX11_keep_9 : decode cX11_keep 9 = .ok (.aload_n 0, 1) := by decide +kernel
theorem dX11_keep_10 : decode cX11_keep 10 = .ok (.getfield 13, 3) := by decide +kernel
theorem dX11_keep_13 : decode cX11_keep 13 = .ok (.iload_n 1, 1) := by decide +kernel
theorem dX11_keep_14 : decode cX11_keep 14 = .ok (.aload_n 0, 1) := by decide +kernel
theorem dX11_keep_15 : decode cX11_keep 15 = .ok (.getfield 9, 3) := by decide +kernel
theorem dX11_keep_18 : decode cX11_keep 18 = .ok (.iload_n 1, 1) := by decide +kernel
theorem dX11_keep_19 : decode cX11_keep 19 = .ok (.iaload, 1) := by decide +kernel
theorem dX11_keep_20 : decode cX11_keep 20 = .ok (.iastore, 1) := by decide +kernel
theorem dX11_keep_21 : decode cX11_keep 21 = .ok (.iinc 1 1, 3) := by decide +kernel
theorem dX11_keep_24 : decode cX11_keep 24 = .ok (.goto (-22), 3) := by decide +kernel
theorem dX11_keep_27 : decode cX11_keep 27 = .ok (.aload_n 0, 1) := by decide +kernel
theorem dX11_keep_28 : decode cX11_keep 28 = .ok (.iconst 1, 1) := by decide +kernel
theorem dX11_keep_29 : decode cX11_keep 29 = .ok (.putfield 246, 3) := by decide +kernel
theorem dX11_keep_32 : decode cX11_keep 32 = .ok (.lconst 1, 1) := by decide +kernel
theorem dX11_keep_33 : decode cX11_keep 33 = .ok (.lreturn, 1) := by decide +kernel
theorem dX11_back_0 : decode cX11_back 0 = .ok (.aload_n 0, 1) := by decide +kernel
theorem dX11_back_1 : decode cX11_back 1 = .ok (.getfield 246, 3) := by decide +kernel
theorem dX11_back_4 : decode cX11_back 4 = .ok (.ifCond .ne 11, 3) := by decide +kernel
theorem dX11_back_7 : decode cX11_back 7 = .ok (.aload_n 0, 1) := by decide +kernel
theorem dX11_back_8 : decode cX11_back 8 = .ok (.ldc2_w 96, 3) := by decide +kernel
theorem dX11_back_11 : decode cX11_back 11 = .ok (.invokevirtual 64, 3) := by decide +kernel
theorem dX11_back_14 : decode cX11_back 14 = .ok (.lreturn, 1) := by decide +kernel
theorem dX11_back_15 : decode cX11_back 15 = .ok (.iconst 0, 1) := by decide +kernel
theorem dX11_back_16 : decode cX11_back 16 = .ok (.istore_n 1, 1) := by decide +kernel
theorem dX11_back_17 : decode cX11_back 17 = .ok (.iload_n 1, 1) := by decide +kernel
theorem dX11_back_18 : decode cX11_back 18 = .ok (.sipush 160, 3) := by decide +kernel
theorem dX11_back_21 : decode cX11_back 21 = .ok (.if_icmp .ge 21, 3) := by decide +kernel
theorem dX11_back_24 : decode cX11_back 24 = .ok (.aload_n 0, 1) := by decide +kernel
theorem dX11_back_25 : decode cX11_back 25 = .ok (.getfield 9, 3) := by decide +kernel
theorem dX11_back_28 : decode cX11_back 28 = .ok (.iload_n 1, 1) := by decide +kernel
theorem dX11_back_29 : decode cX11_back 29 = .ok (.aload_n 0, 1) := by decide +kernel
theorem dX11_back_30 : decode cX11_back 30 = .ok (.getfield 13, 3) := by decide +kernel
theorem dX11_back_33 : decode cX11_back 33 = .ok (.iload_n 1, 1) := by decide +kernel
theorem dX11_back_34 : decode cX11_back 34 = .ok (.iaload, 1) := by decide +kernel
theorem dX11_back_35 : decode cX11_back 35 = .ok (.iastore, 1) := by decide +kernel
theorem dX11_back_36 : decode cX11_back 36 = .ok (.iinc 1 1, 3) := by decide +kernel
theorem dX11_back_39 : decode cX11_back 39 = .ok (.goto (-22), 3) := by decide +kernel
theorem dX11_back_42 : decode cX11_back 42 = .ok (.aload_n 0, 1) := by decide +kernel
theorem dX11_back_43 : decode cX11_back 43 = .ok (.iconst 0, 1) := by decide +kernel
theorem dX11_back_44 : decode cX11_back 44 = .ok (.putfield 137, 3) := by decide +kernel
theorem dX11_back_47 : decode cX11_back 47 = .ok (.lconst 1, 1) := by decide +kernel
theorem dX11_back_48 : decode cX11_back 48 = .ok (.lreturn, 1) := by decide +kernel
theorem dX11_count_0 : decode cX11_count 0 = .ok (.iload_n 1, 1) := by decide +kernel
theorem dX11_count_1 : decode cX11_count 1 = .ok (.tableswitch 81 0 5 #[39, 47, 55, 63, 69, 75], 39) := by decide +kernel
theorem dX11_count_40 : decode cX11_count 40 = .ok (.aload_n 0, 1) := by decide +kernel
theorem dX11_count_41 : decode cX11_count 41 = .ok (.getfield 9, 3) := by decide +kernel
theorem dX11_count_44 : decode cX11_count 44 = .ok (.iconst 0, 1) := by decide +kernel
theorem dX11_count_45 : decode cX11_count 45 = .ok (.iaload, 1) := by decide +kernel
theorem dX11_count_46 : decode cX11_count 46 = .ok (.i2l, 1) := by decide +kernel
theorem dX11_count_47 : decode cX11_count 47 = .ok (.lreturn, 1) := by decide +kernel
theorem dX11_count_48 : decode cX11_count 48 = .ok (.aload_n 0, 1) := by decide +kernel
theorem dX11_count_49 : decode cX11_count 49 = .ok (.getfield 9, 3) := by decide +kernel
theorem dX11_count_52 : decode cX11_count 52 = .ok (.iconst 1, 1) := by decide +kernel
theorem dX11_count_53 : decode cX11_count 53 = .ok (.iaload, 1) := by decide +kernel
theorem dX11_count_54 : decode cX11_count 54 = .ok (.i2l, 1) := by decide +kernel
theorem dX11_count_55 : decode cX11_count 55 = .ok (.lreturn, 1) := by decide +kernel
theorem dX11_count_56 : decode cX11_count 56 = .ok (.aload_n 0, 1) := by decide +kernel
theorem dX11_count_57 : decode cX11_count 57 = .ok (.getfield 9, 3) := by decide +kernel
theorem dX11_count_60 : decode cX11_count 60 = .ok (.iconst 2, 1) := by decide +kernel
theorem dX11_count_61 : decode cX11_count 61 = .ok (.iaload, 1) := by decide +kernel
theorem dX11_count_62 : decode cX11_count 62 = .ok (.i2l, 1) := by decide +kernel
theorem dX11_count_63 : decode cX11_count 63 = .ok (.lreturn, 1) := by decide +kernel
theorem dX11_count_64 : decode cX11_count 64 = .ok (.aload_n 0, 1) := by decide +kernel
theorem dX11_count_65 : decode cX11_count 65 = .ok (.invokevirtual 206, 3) := by decide +kernel
theorem dX11_count_68 : decode cX11_count 68 = .ok (.i2l, 1) := by decide +kernel
theorem dX11_count_69 : decode cX11_count 69 = .ok (.lreturn, 1) := by decide +kernel
theorem dX11_count_70 : decode cX11_count 70 = .ok (.aload_n 0, 1) := by decide +kernel
theorem dX11_count_71 : decode cX11_count 71 = .ok (.getfield 226, 3) := by decide +kernel
theorem dX11_count_74 : decode cX11_count 74 = .ok (.i2l, 1) := by decide +kernel
theorem dX11_count_75 : decode cX11_count 75 = .ok (.lreturn, 1) := by decide +kernel
theorem dX11_count_76 : decode cX11_count 76 = .ok (.aload_n 0, 1) := by decide +kernel
theorem dX11_count_77 : decode cX11_count 77 = .ok (.getfield 233, 3) := by decide +kernel
theorem dX11_count_80 : decode cX11_count 80 = .ok (.i2l, 1) := by decide +kernel
theorem dX11_count_81 : decode cX11_count 81 = .ok (.lreturn, 1) := by decide +kernel
theorem dX11_count_82 : decode cX11_count 82 = .ok (.aload_n 0, 1) := by decide +kernel
theorem dX11_count_83 : decode cX11_count 83 = .ok (.ldc2_w 62, 3) := by decide +kernel
theorem dX11_count_86 : decode cX11_count 86 = .ok (.invokevirtual 64, 3) := by decide +kernel
theorem dX11_count_89 : decode cX11_count 89 = .ok (.lreturn, 1) := by decide +kernel
theorem dX11_found_0 : decode cX11_found 0 = .ok (.iload_n 1, 1) := by decide +kernel
theorem dX11_found_1 : decode cX11_found 1 = .ok (.iconst 1, 1) := by decide +kernel
theorem dX11_found_2 : decode cX11_found 2 = .ok (.bipush 7, 2) := by decide +kernel
theorem dX11_found_4 : decode cX11_found 4 = .ok (.invokestatic 58, 3) := by decide +kernel
theorem dX11_found_7 : decode cX11_found 7 = .ok (.ifCond .eq 12, 3) := by decide +kernel
theorem dX11_found_10 : decode cX11_found 10 = .ok (.aload_n 0, 1) := by decide +kernel
theorem dX11_found_11 : decode cX11_found 11 = .ok (.getfield 31, 3) := by decide +kernel
theorem dX11_found_14 : decode cX11_found 14 = .ok (.iload_n 1, 1) := by decide +kernel
theorem dX11_found_15 : decode cX11_found 15 = .ok (.laload, 1) := by decide +kernel
theorem dX11_found_16 : decode cX11_found 16 = .ok (.goto 10, 3) := by decide +kernel
theorem dX11_found_19 : decode cX11_found 19 = .ok (.aload_n 0, 1) := by decide +kernel
theorem dX11_found_20 : decode cX11_found 20 = .ok (.ldc2_w 62, 3) := by decide +kernel
