theorem dX11_whole_63 : decode cX11_whole 63 = .ok (.iconst 0, 1) := by decide +kernel
theorem dX11_whole_64 : decode cX11_whole 64 = .ok (.iconst 0, 1) := by decide +kernel
theorem dX11_whole_65 : decode cX11_whole 65 = .ok (.iload_n 1, 1) := by decide +kernel
theorem dX11_whole_66 : decode cX11_whole 66 = .ok (.invokevirtual 105, 3) := by decide +kernel
theorem dX11_whole_69 : decode cX11_whole 69 = .ok (.aload_n 0, 1) := by decide +kernel
theorem dX11_whole_70 : decode cX11_whole 70 = .ok (.iconst 1, 1) := by decide +kernel
theorem dX11_whole_71 : decode cX11_whole 71 = .ok (.iconst 2, 1) := by decide +kernel
theorem dX11_whole_72 : decode cX11_whole 72 = .ok (.iconst 3, 1) := by decide +kernel
theorem dX11_whole_73 : decode cX11_whole 73 = .ok (.iconst 1, 1) := by decide +kernel
theorem dX11_whole_74 : decode cX11_whole 74 = .ok (.iconst 2, 1) := by decide +kernel
theorem dX11_whole_75 : decode cX11_whole 75 = .ok (.iconst 3, 1) := by decide +kernel
theorem dX11_whole_76 : decode cX11_whole 76 = .ok (.iload_n 1, 1) := by decide +kernel
theorem dX11_whole_77 : decode cX11_whole 77 = .ok (.invokevirtual 113, 3) := by decide +kernel
theorem dX11_whole_80 : decode cX11_whole 80 = .ok (.lmul, 1) := by decide +kernel
theorem dX11_whole_81 : decode cX11_whole 81 = .ok (.aload_n 0, 1) := by decide +kernel
theorem dX11_whole_82 : decode cX11_whole 82 = .ok (.iconst 0, 1) := by decide +kernel
theorem dX11_whole_83 : decode cX11_whole 83 = .ok (.iconst 1, 1) := by decide +kernel
theorem dX11_whole_84 : decode cX11_whole 84 = .ok (.iload_n 1, 1) := by decide +kernel
theorem dX11_whole_85 : decode cX11_whole 85 = .ok (.invokevirtual 105, 3) := by decide +kernel
theorem dX11_whole_88 : decode cX11_whole 88 = .ok (.aload_n 0, 1) := by decide +kernel
theorem dX11_whole_89 : decode cX11_whole 89 = .ok (.iconst 1, 1) := by decide +kernel
theorem dX11_whole_90 : decode cX11_whole 90 = .ok (.iconst 2, 1) := by decide +kernel
theorem dX11_whole_91 : decode cX11_whole 91 = .ok (.iconst 3, 1) := by decide +kernel
theorem dX11_whole_92 : decode cX11_whole 92 = .ok (.iconst 0, 1) := by decide +kernel
theorem dX11_whole_93 : decode cX11_whole 93 = .ok (.iconst 2, 1) := by decide +kernel
theorem dX11_whole_94 : decode cX11_whole 94 = .ok (.iconst 3, 1) := by decide +kernel
theorem dX11_whole_95 : decode cX11_whole 95 = .ok (.iload_n 1, 1) := by decide +kernel
theorem dX11_whole_96 : decode cX11_whole 96 = .ok (.invokevirtual 113, 3) := by decide +kernel
theorem dX11_whole_99 : decode cX11_whole 99 = .ok (.lmul, 1) := by decide +kernel
theorem dX11_whole_100 : decode cX11_whole 100 = .ok (.lsub, 1) := by decide +kernel
theorem dX11_whole_101 : decode cX11_whole 101 = .ok (.aload_n 0, 1) := by decide +kernel
theorem dX11_whole_102 : decode cX11_whole 102 = .ok (.iconst 0, 1) := by decide +kernel
theorem dX11_whole_103 : decode cX11_whole 103 = .ok (.iconst 2, 1) := by decide +kernel
theorem dX11_whole_104 : decode cX11_whole 104 = .ok (.iload_n 1, 1) := by decide +kernel
theorem dX11_whole_105 : decode cX11_whole 105 = .ok (.invokevirtual 105, 3) := by decide +kernel
theorem dX11_whole_108 : decode cX11_whole 108 = .ok (.aload_n 0, 1) := by decide +kernel
theorem dX11_whole_109 : decode cX11_whole 109 = .ok (.iconst 1, 1) := by decide +kernel
theorem dX11_whole_110 : decode cX11_whole 110 = .ok (.iconst 2, 1) := by decide +kernel
theorem dX11_whole_111 : decode cX11_whole 111 = .ok (.iconst 3, 1) := by decide +kernel
theorem dX11_whole_112 : decode cX11_whole 112 = .ok (.iconst 0, 1) := by decide +kernel
theorem dX11_whole_113 : decode cX11_whole 113 = .ok (.iconst 1, 1) := by decide +kernel
theorem dX11_whole_114 : decode cX11_whole 114 = .ok (.iconst 3, 1) := by decide +kernel
theorem dX11_whole_115 : decode cX11_whole 115 = .ok (.iload_n 1, 1) := by decide +kernel
theorem dX11_whole_116 : decode cX11_whole 116 = .ok (.invokevirtual 113, 3) := by decide +kernel
theorem dX11_whole_119 : decode cX11_whole 119 = .ok (.lmul, 1) := by decide +kernel
theorem dX11_whole_120 : decode cX11_whole 120 = .ok (.ladd, 1) := by decide +kernel
theorem dX11_whole_121 : decode cX11_whole 121 = .ok (.aload_n 0, 1) := by decide +kernel
theorem dX11_whole_122 : decode cX11_whole 122 = .ok (.iconst 0, 1) := by decide +kernel
theorem dX11_whole_123 : decode cX11_whole 123 = .ok (.iconst 3, 1) := by decide +kernel
theorem dX11_whole_124 : decode cX11_whole 124 = .ok (.iload_n 1, 1) := by decide +kernel
theorem dX11_whole_125 : decode cX11_whole 125 = .ok (.invokevirtual 105, 3) := by decide +kernel
theorem dX11_whole_128 : decode cX11_whole 128 = .ok (.aload_n 0, 1) := by decide +kernel
theorem dX11_whole_129 : decode cX11_whole 129 = .ok (.iconst 1, 1) := by decide +kernel
theorem dX11_whole_130 : decode cX11_whole 130 = .ok (.iconst 2, 1) := by decide +kernel
theorem dX11_whole_131 : decode cX11_whole 131 = .ok (.iconst 3, 1) := by decide +kernel
theorem dX11_whole_132 : decode cX11_whole 132 = .ok (.iconst 0, 1) := by decide +kernel
theorem dX11_whole_133 : decode cX11_whole 133 = .ok (.iconst 1, 1) := by decide +kernel
theorem dX11_whole_134 : decode cX11_whole 134 = .ok (.iconst 2, 1) := by decide +kernel
theorem dX11_whole_135 : decode cX11_whole 135 = .ok (.iload_n 1, 1) := by decide +kernel
theorem dX11_whole_136 : decode cX11_whole 136 = .ok (.invokevirtual 113, 3) := by decide +kernel
theorem dX11_whole_139 : decode cX11_whole 139 = .ok (.lmul, 1) := by decide +kernel
theorem dX11_whole_140 : decode cX11_whole 140 = .ok (.lsub, 1) := by decide +kernel
theorem dX11_whole_141 : decode cX11_whole 141 = .ok (.lreturn, 1) := by decide +kernel
theorem dX11_solve_0 : decode cX11_solve 0 = .ok (.iconst 0, 1) := by decide +kernel
theorem dX11_solve_1 : decode cX11_solve 1 = .ok (.istore_n 2, 1) := by decide +kernel
theorem dX11_solve_2 : decode cX11_solve 2 = .ok (.iload_n 2, 1) := by decide +kernel
theorem dX11_solve_3 : decode cX11_solve 3 = .ok (.aload_n 0, 1) := by decide +kernel
theorem dX11_solve_4 : decode cX11_solve 4 = .ok (.getfield 101, 3) := by decide +kernel
theorem dX11_solve_7 : decode cX11_solve 7 = .ok (.if_icmp .ge 43, 3) := by decide +kernel
theorem dX11_solve_10 : decode cX11_solve 10 = .ok (.aload_n 0, 1) := by decide +kernel
theorem dX11_solve_11 : decode cX11_solve 11 = .ok (.getfield 47, 3) := by decide +kernel
theorem dX11_solve_14 : decode cX11_solve 14 = .ok (.iload_n 2, 1) := by decide +kernel
theorem dX11_solve_15 : decode cX11_solve 15 = .ok (.lconst 0, 1) := by decide +kernel
theorem dX11_solve_16 : decode cX11_solve 16 = .ok (.lastore, 1) := by decide +kernel
theorem dX11_solve_17 : decode cX11_solve 17 = .ok (.iconst 0, 1) := by decide +kernel
theorem dX11_solve_18 : decode cX11_solve 18 = .ok (.istore_n 3, 1) := by decide +kernel
theorem dX11_solve_19 : decode cX11_solve 19 = .ok (.iload_n 3, 1) := by decide +kernel
theorem dX11_solve_20 : decode cX11_solve 20 = .ok (.aload_n 0, 1) := by decide +kernel
theorem dX11_solve_21 : decode cX11_solve 21 = .ok (.getfield 101, 3) := by decide +kernel
theorem dX11_solve_24 : decode cX11_solve 24 = .ok (.if_icmp .ge 20, 3) := by decide +kernel
theorem dX11_solve_27 : decode cX11_solve 27 = .ok (.aload_n 0, 1) := by decide +kernel
theorem dX11_solve_28 : decode cX11_solve 28 = .ok (.getfield 44, 3) := by decide +kernel
theorem dX11_solve_31 : decode cX11_solve 31 = .ok (.iconst 4, 1) := by decide +kernel
theorem dX11_solve_32 : decode cX11_solve 32 = .ok (.iload_n 2, 1) := by decide +kernel
theorem dX11_solve_33 : decode cX11_solve 33 = .ok (.imul, 1) := by decide +kernel
theorem dX11_solve_34 : decode cX11_solve 34 = .ok (.iload_n 3, 1) := by decide +kernel
theorem dX11_solve_35 : decode cX11_solve 35 = .ok (.iadd, 1) := by decide +kernel
theorem dX11_solve_36 : decode cX11_solve 36 = .ok (.lconst 0, 1) := by decide +kernel
theorem dX11_solve_37 : decode cX11_solve 37 = .ok (.lastore, 1) := by decide +kernel
theorem dX11_solve_38 : decode cX11_solve 38 = .ok (.iinc 3 1, 3) := by decide +kernel
theorem dX11_solve_41 : decode cX11_solve 41 = .ok (.goto (-22), 3) := by decide +kernel
theorem dX11_solve_44 : decode cX11_solve 44 = .ok (.iinc 2 1, 3) := by decide +kernel
theorem dX11_solve_47 : decode cX11_solve 47 = .ok (.goto (-45), 3) := by decide +kernel
theorem dX11_solve_50 : decode cX11_solve 50 = .ok (.iconst 0, 1) := by decide +kernel
theorem dX11_solve_51 : decode cX11_solve 51 = .ok (.istore_n 2, 1) := by decide +kernel
theorem dX11_solve_52 : decode cX11_solve 52 = .ok (.iload_n 2, 1) := by decide +kernel
theorem dX11_solve_53 : decode cX11_solve 53 = .ok (.aload_n 0, 1) := by decide +kernel
theorem dX11_solve_54 : decode cX11_solve 54 = .ok (.getfield 9, 3) := by decide +kernel
theorem dX11_solve_57 : decode cX11_solve 57 = .ok (.iconst 1, 1) := by decide +kernel
theorem dX11_solve_58 : decode cX11_solve 58 = .ok (.iaload, 1) := by decide +kernel
theorem dX11_solve_59 : decode cX11_solve 59 = .ok (.if_icmp .ge 130, 3) := by decide +kernel
theorem dX11_solve_62 : decode cX11_solve 62 = .ok (.iload_n 2, 1) := by decide +kernel
theorem dX11_solve_63 : decode cX11_solve 63 = .ok (.iload_n 1, 1) := by decide +kernel
theorem dX11_solve_64 : decode cX11_solve 64 = .ok (.if_icmp .ne 6, 3) := by decide +kernel
theorem dX11_solve_67 : decode cX11_solve 67 = .ok (.goto 116, 3) := by decide +kernel
theorem dX11_solve_70 : decode cX11_solve 70 = .ok (.aload_n 0, 1) := by decide +kernel
theorem dX11_solve_71 : decode cX11_solve 71 = .ok (.getfield 9, 3) := by decide +kernel
theorem dX11_solve_74 : decode cX11_solve 74 = .ok (.bipush 32, 2) := by decide +kernel
theorem dX11_solve_76 : decode cX11_solve 76 = .ok (.iload_n 2, 1) := by decide +kernel
theorem dX11_solve_77 : decode cX11_solve 77 = .ok (.iadd, 1) := by decide +kernel
theorem dX11_solve_78 : decode cX11_solve 78 = .ok (.iaload, 1) := by decide +kernel
theorem dX11_solve_79 : decode cX11_solve 79 = .ok (.istore_n 3, 1) := by decide +kernel
theorem dX11_solve_80 : decode cX11_solve 80 = .ok (.iconst 0, 1) := by decide +kernel
theorem dX11_solve_81 : decode cX11_solve 81 = .ok (.istore 4, 2) := by decide +kernel
theorem dX11_solve_83 : decode cX11_solve 83 = .ok (.iload 4, 2) := by decide +kernel
theorem dX11_solve_85 : decode cX11_solve 85 = .ok (.aload_n 0, 1) := by decide +kernel
theorem dX11_solve_86 : decode cX11_solve 86 = .ok (.getfield 101, 3) := by decide +kernel
theorem dX11_solve_89 : decode cX11_solve 89 = .ok (.if_icmp .ge 94, 3) := by decide +kernel
theorem dX11_solve_92 : decode cX11_solve 92 = .ok (.aload_n 0, 1) := by decide +kernel
theorem dX11_solve_93 : decode cX11_solve 93 = .ok (.aload_n 0, 1) := by decide +kernel
theorem dX11_solve_94 : decode cX11_solve 94 = .ok (.getfield 41, 3) := by decide +kernel
theorem dX11_solve_97 : decode cX11_solve 97 = .ok (.iload 4, 2) := by decide +kernel
theorem dX11_solve_99 : decode cX11_solve 99 = .ok (.iaload, 1) := by decide +kernel
theorem dX11_solve_100 : decode cX11_solve 100 = .ok (.iload_n 3, 1) := by decide +kernel
theorem dX11_solve_101 : decode cX11_solve 101 = .ok (.invokevirtual 81, 3) := by decide +kernel
theorem dX11_solve_104 : decode cX11_solve 104 = .ok (.lstore 5, 2) := by decide +kernel
theorem dX11_solve_106 : decode cX11_solve 106 = .ok (.aload_n 0, 1) := by decide +kernel
theorem dX11_solve_107 : decode cX11_solve 107 = .ok (.getfield 47, 3) := by decide +kernel
theorem dX11_solve_110 : decode cX11_solve 110 = .ok (.iload 4, 2) := by decide +kernel
theorem dX11_solve_112 : decode cX11_solve 112 = .ok (.dup2, 1) := by decide +kernel
theorem dX11_solve_113 : decode cX11_solve 113 = .ok (.laload, 1) := by decide +kernel
theorem dX11_solve_114 : decode cX11_solve 114 = .ok (.lload 5, 2) := by decide +kernel
theorem dX11_solve_116 : decode cX11_solve 116 = .ok (.aload_n 0, 1) := by decide +kernel
theorem dX11_solve_117 : decode cX11_solve 117 = .ok (.getfield 9, 3) := by decide +kernel
theorem dX11_solve_120 : decode cX11_solve 120 = .ok (.bipush 52, 2) := by decide +kernel
theorem dX11_solve_122 : decode cX11_solve 122 = .ok (.iload_n 2, 1) := by decide +kernel
theorem dX11_solve_123 : decode cX11_solve 123 = .ok (.iadd, 1) := by decide +kernel
theorem dX11_solve_124 : decode cX11_solve 124 = .ok (.iaload, 1) := by decide +kernel
theorem dX11_solve_125 : decode cX11_solve 125 = .ok (.i2l, 1) := by decide +kernel
theorem dX11_solve_126 : decode cX11_solve 126 = .ok (.lmul, 1) := by decide +kernel
theorem dX11_solve_127 : decode cX11_solve 127 = .ok (.ladd, 1) := by decide +kernel
theorem dX11_solve_128 : decode cX11_solve 128 = .ok (.lastore, 1) := by decide +kernel
theorem dX11_solve_129 : decode cX11_solve 129 = .ok (.iconst 0, 1) := by decide +kernel
theorem dX11_solve_130 : decode cX11_solve 130 = .ok (.istore 7, 2) := by decide +kernel
theorem dX11_solve_132 : decode cX11_solve 132 = .ok (.iload 7, 2) := by decide +kernel
theorem dX11_solve_134 : decode cX11_solve 134 = .ok (.aload_n 0, 1) := by decide +kernel
theorem dX11_solve_135 : decode cX11_solve 135 = .ok (.getfield 101, 3) := by decide +kernel
theorem dX11_solve_138 : decode cX11_solve 138 = .ok (.if_icmp .ge 39, 3) := by decide +kernel
theorem dX11_solve_141 : decode cX11_solve 141 = .ok (.aload_n 0, 1) := by decide +kernel
theorem dX11_solve_142 : decode cX11_solve 142 = .ok (.getfield 44, 3) := by decide +kernel
theorem dX11_solve_145 : decode cX11_solve 145 = .ok (.iconst 4, 1) := by decide +kernel
theorem dX11_solve_146 : decode cX11_solve 146 = .ok (.iload 4, 2) := by decide +kernel
theorem dX11_solve_148 : decode cX11_solve 148 = .ok (.imul, 1) := by decide +kernel
theorem dX11_solve_149 : decode cX11_solve 149 = .ok (.iload 7, 2) := by decide +kernel
theorem dX11_solve_151 : decode cX11_solve 151 = .ok (.iadd, 1) := by decide +kernel
theorem dX11_solve_152 : decode cX11_solve 152 = .ok (.dup2, 1) := by decide +kernel
theorem dX11_solve_153 : decode cX11_solve 153 = .ok (.laload, 1) := by decide +kernel
theorem dX11_solve_154 : decode cX11_solve 154 = .ok (.lload 5, 2) := by decide +kernel
theorem dX11_solve_156 : decode cX11_solve 156 = .ok (.aload_n 0, 1) := by decide +kernel
theorem dX11_solve_157 : decode cX11_solve 157 = .ok (.aload_n 0, 1) := by decide +kernel
theorem dX11_solve_158 : decode cX11_solve 158 = .ok (.getfield 41, 3) := by decide +kernel
theorem dX11_solve_161 : decode cX11_solve 161 = .ok (.iload 7, 2) := by decide +kernel
theorem dX11_solve_163 : decode cX11_solve 163 = .ok (.iaload, 1) := by decide +kernel
theorem dX11_solve_164 : decode cX11_solve 164 = .ok (.iload_n 3, 1) := by decide +kernel
theorem dX11_solve_165 : decode cX11_solve 165 = .ok (.invokevirtual 81, 3) := by decide +kernel
theorem dX11_solve_168 : decode cX11_solve 168 = .ok (.lmul, 1) := by decide +kernel
theorem dX11_solve_169 : decode cX11_solve 169 = .ok (.ladd, 1) := by decide +kernel
theorem dX11_solve_170 : decode cX11_solve 170 = .ok (.lastore, 1) := by decide +kernel
theorem dX11_solve_171 : decode cX11_solve 171 = .ok (.iinc 7 1, 3) := by decide +kernel
theorem dX11_solve_174 : decode cX11_solve 174 = .ok (.goto (-42), 3) := by decide +kernel
theorem dX11_solve_177 : decode cX11_solve 177 = .ok (.iinc 4 1, 3) := by decide +kernel
theorem dX11_solve_180 : decode cX11_solve 180 = .ok (.goto (-97), 3) := by decide +kernel
theorem dX11_solve_183 : decode cX11_solve 183 = .ok (.iinc 2 1, 3) := by decide +kernel
theorem dX11_solve_186 : decode cX11_solve 186 = .ok (.goto (-134), 3) := by decide +kernel
theorem dX11_solve_189 : decode cX11_solve 189 = .ok (.aload_n 0, 1) := by decide +kernel
theorem dX11_solve_190 : decode cX11_solve 190 = .ok (.aload_n 0, 1) := by decide +kernel
theorem dX11_solve_191 : decode cX11_solve 191 = .ok (.iconst (-1), 1) := by decide +kernel
theorem dX11_solve_192 : decode cX11_solve 192 = .ok (.invokevirtual 117, 3) := by decide +kernel
theorem dX11_solve_195 : decode cX11_solve 195 = .ok (.putfield 121, 3) := by decide +kernel
theorem dX11_solve_198 : decode cX11_solve 198 = .ok (.aload_n 0, 1) := by decide +kernel
theorem dX11_solve_199 : decode cX11_solve 199 = .ok (.getfield 121, 3) := by decide +kernel
theorem dX11_solve_202 : decode cX11_solve 202 = .ok (.lconst 0, 1) := by decide +kernel
theorem dX11_solve_203 : decode cX11_solve 203 = .ok (.lcmp, 1) := by decide +kernel
theorem dX11_solve_204 : decode cX11_solve 204 = .ok (.ifCond .ne 5, 3) := by decide +kernel
theorem dX11_solve_207 : decode cX11_solve 207 = .ok (.iconst 0, 1) := by decide +kernel
theorem dX11_solve_208 : decode cX11_solve 208 = .ok (.ireturn, 1) := by decide +kernel
theorem dX11_solve_209 : decode cX11_solve 209 = .ok (.iconst 0, 1) := by decide +kernel
theorem dX11_solve_210 : decode cX11_solve 210 = .ok (.istore_n 2, 1) := by decide +kernel
theorem dX11_solve_211 : decode cX11_solve 211 = .ok (.iload_n 2, 1) := by decide +kernel
theorem dX11_solve_212 : decode cX11_solve 212 = .ok (.aload_n 0, 1) := by decide +kernel
theorem dX11_solve_213 : decode cX11_solve 213 = .ok (.getfield 101, 3) := by decide +kernel
theorem dX11_solve_216 : decode cX11_solve 216 = .ok (.if_icmp .ge 20, 3) := by decide +kernel
theorem dX11_solve_219 : decode cX11_solve 219 = .ok (.aload_n 0, 1) := by decide +kernel
theorem dX11_solve_220 : decode cX11_solve 220 = .ok (.getfield 50, 3) := by decide +kernel
theorem dX11_solve_223 : decode cX11_solve 223 = .ok (.iload_n 2, 1) := by decide +kernel
theorem dX11_solve_224 : decode cX11_solve 224 = .ok (.aload_n 0, 1) := by decide +kernel
theorem dX11_solve_225 : decode cX11_solve 225 = .ok (.iload_n 2, 1) := by decide +kernel
theorem dX11_solve_226 : decode cX11_solve 226 = .ok (.invokevirtual 117, 3) := by decide +kernel
theorem dX11_solve_229 : decode cX11_solve 229 = .ok (.lastore, 1) := by decide +kernel
theorem dX11_solve_230 : decode cX11_solve 230 = .ok (.iinc 2 1, 3) := by decide +kernel
theorem dX11_solve_233 : decode cX11_solve 233 = .ok (.goto (-22), 3) := by decide +kernel
theorem dX11_solve_236 : decode cX11_solve 236 = .ok (.iconst 1, 1) := by decide +kernel
theorem dX11_solve_237 : decode cX11_solve 237 = .ok (.ireturn, 1) := by decide +kernel
theorem dX11_sumLeft_0 : decode cX11_sumLeft 0 = .ok (.lconst 0, 1) := by decide +kernel
theorem dX11_sumLeft_1 : decode cX11_sumLeft 1 = .ok (.lstore_n 1, 1) := by decide +kernel
theorem dX11_sumLeft_2 : decode cX11_sumLeft 2 = .ok (.iconst 0, 1) := by decide +kernel
theorem dX11_sumLeft_3 : decode cX11_sumLeft 3 = .ok (.istore_n 3, 1) := by decide +kernel
theorem dX11_sumLeft_4 : decode cX11_sumLeft 4 = .ok (.iload_n 3, 1) := by decide +kernel
theorem dX11_sumLeft_5 : decode cX11_sumLeft 5 = .ok (.aload_n 0, 1) := by decide +kernel
theorem dX11_sumLeft_6 : decode cX11_sumLeft 6 = .ok (.getfield 9, 3) := by decide +kernel
theorem dX11_sumLeft_9 : decode cX11_sumLeft 9 = .ok (.iconst 1, 1) := by decide +kernel
theorem dX11_sumLeft_10 : decode cX11_sumLeft 10 = .ok (.iaload, 1) := by decide +kernel
theorem dX11_sumLeft_11 : decode cX11_sumLeft 11 = .ok (.if_icmp .ge 33, 3) := by decide +kernel
theorem dX11_sumLeft_14 : decode cX11_sumLeft 14 = .ok (.lload_n 1, 1) := by decide +kernel
theorem dX11_sumLeft_15 : decode cX11_sumLeft 15 = .ok (.aload_n 0, 1) := by decide +kernel
theorem dX11_sumLeft_16 : decode cX11_sumLeft 16 = .ok (.getfield 9, 3) := by decide +kernel
theorem dX11_sumLeft_19 : decode cX11_sumLeft 19 = .ok (.bipush 52, 2) := by decide +kernel
theorem dX11_sumLeft_21 : decode cX11_sumLeft 21 = .ok (.iload_n 3, 1) := by decide +kernel
theorem dX11_sumLeft_22 : decode cX11_sumLeft 22 = .ok (.iadd, 1) := by decide +kernel
theorem dX11_sumLeft_23 : decode cX11_sumLeft 23 = .ok (.iaload, 1) := by decide +kernel
theorem dX11_sumLeft_24 : decode cX11_sumLeft 24 = .ok (.i2l, 1) := by decide +kernel
theorem dX11_sumLeft_25 : decode cX11_sumLeft 25 = .ok (.aload_n 0, 1) := by decide +kernel
theorem dX11_sumLeft_26 : decode cX11_sumLeft 26 = .ok (.getfield 9, 3) := by decide +kernel
theorem dX11_sumLeft_29 : decode cX11_sumLeft 29 = .ok (.bipush 52, 2) := by decide +kernel
theorem dX11_sumLeft_31 : decode cX11_sumLeft 31 = .ok (.iload_n 3, 1) := by decide +kernel
theorem dX11_sumLeft_32 : decode cX11_sumLeft 32 = .ok (.iadd, 1) := by decide +kernel
theorem dX11_sumLeft_33 : decode cX11_sumLeft 33 = .ok (.iaload, 1) := by decide +kernel
theorem dX11_sumLeft_34 : decode cX11_sumLeft 34 = .ok (.i2l, 1) := by decide +kernel
theorem dX11_sumLeft_35 : decode cX11_sumLeft 35 = .ok (.lmul, 1) := by decide +kernel
theorem dX11_sumLeft_36 : decode cX11_sumLeft 36 = .ok (.ladd, 1) := by decide +kernel
theorem dX11_sumLeft_37 : decode cX11_sumLeft 37 = .ok (.lstore_n 1, 1) := by decide +kernel
theorem dX11_sumLeft_38 : decode cX11_sumLeft 38 = .ok (.iinc 3 1, 3) := by decide +kernel
theorem dX11_sumLeft_41 : decode cX11_sumLeft 41 = .ok (.goto (-37), 3) := by decide +kernel
theorem dX11_sumLeft_44 : decode cX11_sumLeft 44 = .ok (.lload_n 1, 1) := by decide +kernel
theorem dX11_sumLeft_45 : decode cX11_sumLeft 45 = .ok (.aload_n 0, 1) := by decide +kernel
theorem dX11_sumLeft_46 : decode cX11_sumLeft 46 = .ok (.getfield 121, 3) := by decide +kernel
theorem dX11_sumLeft_49 : decode cX11_sumLeft 49 = .ok (.lmul, 1) := by decide +kernel
theorem dX11_sumLeft_50 : decode cX11_sumLeft 50 = .ok (.lstore_n 3, 1) := by decide +kernel
theorem dX11_sumLeft_51 : decode cX11_sumLeft 51 = .ok (.iconst 0, 1) := by decide +kernel
theorem dX11_sumLeft_52 : decode cX11_sumLeft 52 = .ok (.istore 5, 2) := by decide +kernel
theorem dX11_sumLeft_54 : decode cX11_sumLeft 54 = .ok (.iload 5, 2) := by decide +kernel
theorem dX11_sumLeft_56 : decode cX11_sumLeft 56 = .ok (.aload_n 0, 1) := by decide +kernel
theorem dX11_sumLeft_57 : decode cX11_sumLeft 57 = .ok (.getfield 101, 3) := by decide +kernel
theorem dX11_sumLeft_60 : decode cX11_sumLeft 60 = .ok (.if_icmp .ge 27, 3) := by decide +kernel
theorem dX11_sumLeft_63 : decode cX11_sumLeft 63 = .ok (.lload_n 3, 1) := by decide +kernel
theorem dX11_sumLeft_64 : decode cX11_sumLeft 64 = .ok (.aload_n 0, 1) := by decide +kernel
theorem dX11_sumLeft_65 : decode cX11_sumLeft 65 = .ok (.getfield 50, 3) := by decide +kernel
theorem dX11_sumLeft_68 : decode cX11_sumLeft 68 = .ok (.iload 5, 2) := by decide +kernel
theorem dX11_sumLeft_70 : decode cX11_sumLeft 70 = .ok (.laload, 1) := by decide +kernel
theorem dX11_sumLeft_71 : decode cX11_sumLeft 71 = .ok (.aload_n 0, 1) := by decide +kernel
theorem dX11_sumLeft_72 : decode cX11_sumLeft 72 = .ok (.getfield 47, 3) := by decide +kernel
theorem dX11_sumLeft_75 : decode cX11_sumLeft 75 = .ok (.iload 5, 2) := by decide +kernel
theorem dX11_sumLeft_77 : decode cX11_sumLeft 77 = .ok (.laload, 1) := by decide +kernel
theorem dX11_sumLeft_78 : decode cX11_sumLeft 78 = .ok (.lmul, 1) := by decide +kernel
theorem dX11_sumLeft_79 : decode cX11_sumLeft 79 = .ok (.lsub, 1) := by decide +kernel
theorem dX11_sumLeft_80 : decode cX11_sumLeft 80 = .ok (.lstore_n 3, 1) := by decide +kernel
theorem dX11_sumLeft_81 : decode cX11_sumLeft 81 = .ok (.iinc 5 1, 3) := by decide +kernel
theorem dX11_sumLeft_84 : decode cX11_sumLeft 84 = .ok (.goto (-30), 3) := by decide +kernel
theorem dX11_sumLeft_87 : decode cX11_sumLeft 87 = .ok (.lload_n 3, 1) := by decide +kernel
theorem dX11_sumLeft_88 : decode cX11_sumLeft 88 = .ok (.lreturn, 1) := by decide +kernel
theorem dX11_rank_0 : decode cX11_rank 0 = .ok (.iconst 0, 1) := by decide +kernel
theorem dX11_rank_1 : decode cX11_rank 1 = .ok (.istore_n 2, 1) := by decide +kernel
theorem dX11_rank_2 : decode cX11_rank 2 = .ok (.iconst 0, 1) := by decide +kernel
theorem dX11_rank_3 : decode cX11_rank 3 = .ok (.istore_n 3, 1) := by decide +kernel
theorem dX11_rank_4 : decode cX11_rank 4 = .ok (.iload_n 3, 1) := by decide +kernel
theorem dX11_rank_5 : decode cX11_rank 5 = .ok (.aload_n 0, 1) := by decide +kernel
theorem dX11_rank_6 : decode cX11_rank 6 = .ok (.getfield 101, 3) := by decide +kernel
theorem dX11_rank_9 : decode cX11_rank 9 = .ok (.if_icmp .ge 71, 3) := by decide +kernel
theorem dX11_rank_12 : decode cX11_rank 12 = .ok (.iload_n 3, 1) := by decide +kernel
theorem dX11_rank_13 : decode cX11_rank 13 = .ok (.iload_n 1, 1) := by decide +kernel
theorem dX11_rank_14 : decode cX11_rank 14 = .ok (.if_icmp .ne 6, 3) := by decide +kernel
theorem dX11_rank_17 : decode cX11_rank 17 = .ok (.goto 57, 3) := by decide +kernel
theorem dX11_rank_20 : decode cX11_rank 20 = .ok (.iconst 0, 1) := by decide +kernel
theorem dX11_rank_21 : decode cX11_rank 21 = .ok (.istore 4, 2) := by decide +kernel
theorem dX11_rank_23 : decode cX11_rank 23 = .ok (.iload 4, 2) := by decide +kernel
theorem dX11_rank_25 : decode cX11_rank 25 = .ok (.aload_n 0, 1) := by decide +kernel
theorem dX11_rank_26 : decode cX11_rank 26 = .ok (.getfield 9, 3) := by decide +kernel
theorem dX11_rank_29 : decode cX11_rank 29 = .ok (.iconst 1, 1) := by decide +kernel
theorem dX11_rank_30 : decode cX11_rank 30 = .ok (.iaload, 1) := by decide +kernel
theorem dX11_rank_31 : decode cX11_rank 31 = .ok (.if_icmp .ge 40, 3) := by decide +kernel
theorem dX11_rank_34 : decode cX11_rank 34 = .ok (.aload_n 0, 1) := by decide +kernel
theorem dX11_rank_35 : decode cX11_rank 35 = .ok (.getfield 53, 3) := by decide +kernel
theorem dX11_rank_38 : decode cX11_rank 38 = .ok (.iconst 4, 1) := by decide +kernel
theorem dX11_rank_39 : decode cX11_rank 39 = .ok (.iload 4, 2) := by decide +kernel
theorem dX11_rank_41 : decode cX11_rank 41 = .ok (.imul, 1) := by decide +kernel
theorem dX11_rank_42 : decode cX11_rank 42 = .ok (.iload_n 2, 1) := by decide +kernel
theorem dX11_rank_43 : decode cX11_rank 43 = .ok (.iadd, 1) := by decide +kernel
theorem dX11_rank_44 : decode cX11_rank 44 = .ok (.aload_n 0, 1) := by decide +kernel
theorem dX11_rank_45 : decode cX11_rank 45 = .ok (.aload_n 0, 1) := by decide +kernel
theorem dX11_rank_46 : decode cX11_rank 46 = .ok (.getfield 41, 3) := by decide +kernel
theorem dX11_rank_49 : decode cX11_rank 49 = .ok (.iload_n 3, 1) := by decide +kernel
theorem dX11_rank_50 : decode cX11_rank 50 = .ok (.iaload, 1) := by decide +kernel
theorem dX11_rank_51 : decode cX11_rank 51 = .ok (.aload_n 0, 1) := by decide +kernel
theorem dX11_rank_52 : decode cX11_rank 52 = .ok (.getfield 9, 3) := by decide +kernel
theorem dX11_rank_55 : decode cX11_rank 55 = .ok (.bipush 32, 2) := by decide +kernel
theorem dX11_rank_57 : decode cX11_rank 57 = .ok (.iload 4, 2) := by decide +kernel
theorem dX11_rank_59 : decode cX11_rank 59 = .ok (.iadd, 1) := by decide +kernel
theorem dX11_rank_60 : decode cX11_rank 60 = .ok (.iaload, 1) := by decide +kernel
theorem dX11_rank_61 : decode cX11_rank 61 = .ok (.invokevirtual 81, 3) := by decide +kernel
theorem dX11_rank_64 : decode cX11_rank 64 = .ok (.lastore, 1) := by decide +kernel
theorem dX11_rank_65 : decode cX11_rank 65 = .ok (.iinc 4 1, 3) := by decide +kernel
theorem dX11_rank_68 : decode cX11_rank 68 = .ok (.goto (-45), 3) := by decide +kernel
theorem dX11_rank_71 : decode cX11_rank 71 = .ok (.iinc 2 1, 3) := by decide +kernel
theorem dX11_rank_74 : decode cX11_rank 74 = .ok (.iinc 3 1, 3) := by decide +kernel
theorem dX11_rank_77 : decode cX11_rank 77 = .ok (.goto (-73), 3) := by decide +kernel
theorem dX11_rank_80 : decode cX11_rank 80 = .ok (.iconst 0, 1) := by decide +kernel
theorem dX11_rank_81 : decode cX11_rank 81 = .ok (.istore_n 3, 1) := by decide +kernel
theorem dX11_rank_82 : decode cX11_rank 82 = .ok (.iconst 0, 1) := by decide +kernel
theorem dX11_rank_83 : decode cX11_rank 83 = .ok (.istore 4, 2) := by decide +kernel
theorem dX11_rank_85 : decode cX11_rank 85 = .ok (.iload 4, 2) := by decide +kernel
theorem dX11_rank_87 : decode cX11_rank 87 = .ok (.iload_n 2, 1) := by decide +kernel
theorem dX11_rank_88 : decode cX11_rank 88 = .ok (.if_icmp .ge 230, 3) := by decide +kernel
theorem dX11_rank_91 : decode cX11_rank 91 = .ok (.iload_n 3, 1) := by decide +kernel
theorem dX11_rank_92 : decode cX11_rank 92 = .ok (.istore 5, 2) := by decide +kernel
theorem dX11_rank_94 : decode cX11_rank 94 = .ok (.iload 5, 2) := by decide +kernel
theorem dX11_rank_96 : decode cX11_rank 96 = .ok (.aload_n 0, 1) := by decide +kernel
theorem dX11_rank_97 : decode cX11_rank 97 = .ok (.getfield 9, 3) := by decide +kernel
theorem dX11_rank_100 : decode cX11_rank 100 = .ok (.iconst 1, 1) := by decide +kernel
theorem dX11_rank_101 : decode cX11_rank 101 = .ok (.iaload, 1) := by decide +kernel
theorem dX11_rank_102 : decode cX11_rank 102 = .ok (.if_icmp .ge 26, 3) := by decide +kernel
theorem dX11_rank_105 : decode cX11_rank 105 = .ok (.aload_n 0, 1) := by decide +kernel
theorem dX11_rank_106 : decode cX11_rank 106 = .ok (.getfield 53, 3) := by decide +kernel
theorem dX11_rank_109 : decode cX11_rank 109 = .ok (.iconst 4, 1) := by decide +kernel
theorem dX11_rank_110 : decode cX11_rank 110 = .ok (.iload 5, 2) := by decide +kernel
theorem dX11_rank_112 : decode cX11_rank 112 = .ok (.imul, 1) := by decide +kernel
theorem dX11_rank_113 : decode cX11_rank 113 = .ok (.iload 4, 2) := by decide +kernel
theorem dX11_rank_115 : decode cX11_rank 115 = .ok (.iadd, 1) := by decide +kernel
theorem dX11_rank_116 : decode cX11_rank 116 = .ok (.laload, 1) := by decide +kernel
theorem dX11_rank_117 : decode cX11_rank 117 = .ok (.lconst 0, 1) := by decide +kernel
theorem dX11_rank_118 : decode cX11_rank 118 = .ok (.lcmp, 1) := by decide +kernel
theorem dX11_rank_119 : decode cX11_rank 119 = .ok (.ifCond .ne 9, 3) := by decide +kernel
theorem dX11_rank_122 : decode cX11_rank 122 = .ok (.iinc 5 1, 3) := by decide +kernel
theorem dX11_rank_125 : decode cX11_rank 125 = .ok (.goto (-31), 3) := by decide +kernel
theorem dX11_rank_128 : decode cX11_rank 128 = .ok (.iload 5, 2) := by decide +kernel
theorem dX11_rank_130 : decode cX11_rank 130 = .ok (.aload_n 0, 1) := by decide +kernel
theorem dX11_rank_131 : decode cX11_rank 131 = .ok (.getfield 9, 3) := by decide +kernel
theorem dX11_rank_134 : decode cX11_rank 134 = .ok (.iconst 1, 1) := by decide +kernel
theorem dX11_rank_135 : decode cX11_rank 135 = .ok (.iaload, 1) := by decide +kernel
theorem dX11_rank_136 : decode cX11_rank 136 = .ok (.if_icmp .ne 6, 3) := by decide +kernel
theorem dX11_rank_139 : decode cX11_rank 139 = .ok (.goto 173, 3) := by decide +kernel
theorem dX11_rank_142 : decode cX11_rank 142 = .ok (.iconst 0, 1) := by decide +kernel
theorem dX11_rank_143 : decode cX11_rank 143 = .ok (.istore 6, 2) := by decide +kernel
theorem dX11_rank_145 : decode cX11_rank 145 = .ok (.iload 6, 2) := by decide +kernel
theorem dX11_rank_147 : decode cX11_rank 147 = .ok (.iload_n 2, 1) := by decide +kernel
theorem dX11_rank_148 : decode cX11_rank 148 = .ok (.if_icmp .ge 59, 3) := by decide +kernel
theorem dX11_rank_151 : decode cX11_rank 151 = .ok (.aload_n 0, 1) := by decide +kernel
theorem dX11_rank_152 : decode cX11_rank 152 = .ok (.getfield 53, 3) := by decide +kernel
theorem dX11_rank_155 : decode cX11_rank 155 = .ok (.iconst 4, 1) := by decide +kernel
theorem dX11_rank_156 : decode cX11_rank 156 = .ok (.iload 5, 2) := by decide +kernel
theorem dX11_rank_158 : decode cX11_rank 158 = .ok (.imul, 1) := by decide +kernel
theorem dX11_rank_159 : decode cX11_rank 159 = .ok (.iload 6, 2) := by decide +kernel
theorem dX11_rank_161 : decode cX11_rank 161 = .ok (.iadd, 1) := by decide +kernel
theorem dX11_rank_162 : decode cX11_rank 162 = .ok (.laload, 1) := by decide +kernel
theorem dX11_rank_163 : decode cX11_rank 163 = .ok (.lstore 7, 2) := by decide +kernel
theorem dX11_rank_165 : decode cX11_rank 165 = .ok (.aload_n 0, 1) := by decide +kernel
theorem dX11_rank_166 : decode cX11_rank 166 = .ok (.getfield 53, 3) := by decide +kernel
theorem dX11_rank_169 : decode cX11_rank 169 = .ok (.iconst 4, 1) := by decide +kernel
theorem dX11_rank_170 : decode cX11_rank 170 = .ok (.iload 5, 2) := by decide +kernel
theorem dX11_rank_172 : decode cX11_rank 172 = .ok (.imul, 1) := by decide +kernel
theorem dX11_rank_173 : decode cX11_rank 173 = .ok (.iload 6, 2) := by decide +kernel
theorem dX11_rank_175 : decode cX11_rank 175 = .ok (.iadd, 1) := by decide +kernel
theorem dX11_rank_176 : decode cX11_rank 176 = .ok (.aload_n 0, 1) := by decide +kernel
theorem dX11_rank_177 : decode cX11_rank 177 = .ok (.getfield 53, 3) := by decide +kernel
theorem dX11_rank_180 : decode cX11_rank 180 = .ok (.iconst 4, 1) := by decide +kernel
theorem dX11_rank_181 : decode cX11_rank 181 = .ok (.iload_n 3, 1) := by decide +kernel
theorem dX11_rank_182 : decode cX11_rank 182 = .ok (.imul, 1) := by decide +kernel
theorem dX11_rank_183 : decode cX11_rank 183 = .ok (.iload 6, 2) := by decide +kernel
theorem dX11_rank_185 : decode cX11_rank 185 = .ok (.iadd, 1) := by decide +kernel
theorem dX11_rank_186 : decode cX11_rank 186 = .ok (.laload, 1) := by decide +kernel
theorem dX11_rank_187 : decode cX11_rank 187 = .ok (.lastore, 1) := by decide +kernel
theorem dX11_rank_188 : decode cX11_rank 188 = .ok (.aload_n 0, 1) := by decide +kernel
theorem dX11_rank_189 : decode cX11_rank 189 = .ok (.getfield 53, 3) := by decide +kernel
theorem dX11_rank_192 : decode cX11_rank 192 = .ok (.iconst 4, 1) := by decide +kernel
theorem dX11_rank_193 : decode cX11_rank 193 = .ok (.iload_n 3, 1) := by decide +kernel
theorem dX11_rank_194 : decode cX11_rank 194 = .ok (.imul, 1) := by decide +kernel
theorem dX11_rank_195 : decode cX11_rank 195 = .ok (.iload 6, 2) := by decide +kernel
theorem dX11_rank_197 : decode cX11_rank 197 = .ok (.iadd, 1) := by decide +kernel
theorem dX11_rank_198 : decode cX11_rank 198 = .ok (.lload 7, 2) := by decide +kernel
theorem dX11_rank_200 : decode cX11_rank 200 = .ok (.lastore, 1) := by decide +kernel
theorem dX11_rank_201 : decode cX11_rank 201 = .ok (.iinc 6 1, 3) := by decide +kernel
theorem dX11_rank_204 : decode cX11_rank 204 = .ok (.goto (-59), 3) := by decide +kernel
theorem dX11_rank_207 : decode cX11_rank 207 = .ok (.iload_n 3, 1) := by decide +kernel
theorem dX11_rank_208 : decode cX11_rank 208 = .ok (.iconst 1, 1) := by decide +kernel
theorem dX11_rank_209 : decode cX11_rank 209 = .ok (.iadd, 1) := by decide +kernel
theorem dX11_rank_210 : decode cX11_rank 210 = .ok (.istore 6, 2) := by decide +kernel
theorem dX11_rank_212 : decode cX11_rank 212 = .ok (.iload 6, 2) := by decide +kernel
theorem dX11_rank_214 : decode cX11_rank 214 = .ok (.aload_n 0, 1) := by decide +kernel
theorem dX11_rank_215 : decode cX11_rank 215 = .ok (.getfield 9, 3) := by decide +kernel
theorem dX11_rank_218 : decode cX11_rank 218 = .ok (.iconst 1, 1) := by decide +kernel
theorem dX11_rank_219 : decode cX11_rank 219 = .ok (.iaload, 1) := by decide +kernel
theorem dX11_rank_220 : decode cX11_rank 220 = .ok (.if_icmp .ge 89, 3) := by decide +kernel
theorem dX11_rank_223 : decode cX11_rank 223 = .ok (.aload_n 0, 1) := by decide +kernel
theorem dX11_rank_224 : decode cX11_rank 224 = .ok (.getfield 53, 3) := by decide +kernel
theorem dX11_rank_227 : decode cX11_rank 227 = .ok (.iconst 4, 1) := by decide +kernel
theorem dX11_rank_228 : decode cX11_rank 228 = .ok (.iload 6, 2) := by decide +kernel
theorem dX11_rank_230 : decode cX11_rank 230 = .ok (.imul, 1) := by decide +kernel
theorem dX11_rank_231 : decode cX11_rank 231 = .ok (.iload 4, 2) := by decide +kernel
theorem dX11_rank_233 : decode cX11_rank 233 = .ok (.iadd, 1) := by decide +kernel
theorem dX11_rank_234 : decode cX11_rank 234 = .ok (.laload, 1) := by decide +kernel
theorem dX11_rank_235 : decode cX11_rank 235 = .ok (.lstore 7, 2) := by decide +kernel
theorem dX11_rank_237 : decode cX11_rank 237 = .ok (.iconst 0, 1) := by decide +kernel
theorem dX11_rank_238 : decode cX11_rank 238 = .ok (.istore 9, 2) := by decide +kernel
theorem dX11_rank_240 : decode cX11_rank 240 = .ok (.iload 9, 2) := by decide +kernel
theorem dX11_rank_242 : decode cX11_rank 242 = .ok (.iload_n 2, 1) := by decide +kernel
theorem dX11_rank_243 : decode cX11_rank 243 = .ok (.if_icmp .ge 60, 3) := by decide +kernel
theorem dX11_rank_246 : decode cX11_rank 246 = .ok (.aload_n 0, 1) := by decide +kernel
theorem dX11_rank_247 : decode cX11_rank 247 = .ok (.getfield 53, 3) := by decide +kernel
theorem dX11_rank_250 : decode cX11_rank 250 = .ok (.iconst 4, 1) := by decide +kernel
theorem dX11_rank_251 : decode cX11_rank 251 = .ok (.iload 6, 2) := by decide +kernel
theorem dX11_rank_253 : decode cX11_rank 253 = .ok (.imul, 1) := by decide +kernel
theorem dX11_rank_254 : decode cX11_rank 254 = .ok (.iload 9, 2) := by decide +kernel
theorem dX11_rank_256 : decode cX11_rank 256 = .ok (.iadd, 1) := by decide +kernel
theorem dX11_rank_257 : decode cX11_rank 257 = .ok (.aload_n 0, 1) := by decide +kernel
theorem dX11_rank_258 : decode cX11_rank 258 = .ok (.getfield 53, 3) := by decide +kernel
theorem dX11_rank_261 : decode cX11_rank 261 = .ok (.iconst 4, 1) := by decide +kernel
theorem dX11_rank_262 : decode cX11_rank 262 = .ok (.iload 6, 2) := by decide +kernel
theorem dX11_rank_264 : decode cX11_rank 264 = .ok (.imul, 1) := by decide +kernel
theorem dX11_rank_265 : decode cX11_rank 265 = .ok (.iload 9, 2) := by decide +kernel
theorem dX11_rank_267 : decode cX11_rank 267 = .ok (.iadd, 1) := by decide +kernel
theorem dX11_rank_268 : decode cX11_rank 268 = .ok (.laload, 1) := by decide +kernel
theorem dX11_rank_269 : decode cX11_rank 269 = .ok (.aload_n 0, 1) := by decide +kernel
theorem dX11_rank_270 : decode cX11_rank 270 = .ok (.getfield 53, 3) := by decide +kernel
theorem dX11_rank_273 : decode cX11_rank 273 = .ok (.iconst 4, 1) := by decide +kernel
theorem dX11_rank_274 : decode cX11_rank 274 = .ok (.iload_n 3, 1) := by decide +kernel
theorem dX11_rank_275 : decode cX11_rank 275 = .ok (.imul, 1) := by decide +kernel
theorem dX11_rank_276 : decode cX11_rank 276 = .ok (.iload 4, 2) := by decide +kernel
theorem dX11_rank_278 : decode cX11_rank 278 = .ok (.iadd, 1) := by decide +kernel
theorem dX11_rank_279 : decode cX11_rank 279 = .ok (.laload, 1) := by decide +kernel
theorem dX11_rank_280 : decode cX11_rank 280 = .ok (.lmul, 1) := by decide +kernel
theorem dX11_rank_281 : decode cX11_rank 281 = .ok (.aload_n 0, 1) := by decide +kernel
theorem dX11_rank_282 : decode cX11_rank 282 = .ok (.getfield 53, 3) := by decide +kernel
theorem dX11_rank_285 : decode cX11_rank 285 = .ok (.iconst 4, 1) := by decide +kernel
theorem dX11_rank_286 : decode cX11_rank 286 = .ok (.iload_n 3, 1) := by decide +kernel
theorem dX11_rank_287 : decode cX11_rank 287 = .ok (.imul, 1) := by decide +kernel
theorem dX11_rank_288 : decode cX11_rank 288 = .ok (.iload 9, 2) := by decide +kernel
theorem dX11_rank_290 : decode cX11_rank 290 = .ok (.iadd, 1) := by decide +kernel
theorem dX11_rank_291 : decode cX11_rank 291 = .ok (.laload, 1) := by decide +kernel
theorem dX11_rank_292 : decode cX11_rank 292 = .ok (.lload 7, 2) := by decide +kernel
theorem dX11_rank_294 : decode cX11_rank 294 = .ok (.lmul, 1) := by decide +kernel
theorem dX11_rank_295 : decode cX11_rank 295 = .ok (.lsub, 1) := by decide +kernel
theorem dX11_rank_296 : decode cX11_rank 296 = .ok (.lastore, 1) := by decide +kernel
theorem dX11_rank_297 : decode cX11_rank 297 = .ok (.iinc 9 1, 3) := by decide +kernel
theorem dX11_rank_300 : decode cX11_rank 300 = .ok (.goto (-60), 3) := by decide +kernel
theorem dX11_rank_303 : decode cX11_rank 303 = .ok (.iinc 6 1, 3) := by decide +kernel
theorem dX11_rank_306 : decode cX11_rank 306 = .ok (.goto (-94), 3) := by decide +kernel
theorem dX11_rank_309 : decode cX11_rank 309 = .ok (.iinc 3 1, 3) := by decide +kernel
theorem dX11_rank_312 : decode cX11_rank 312 = .ok (.iinc 4 1, 3) := by decide +kernel
theorem dX11_rank_315 : decode cX11_rank 315 = .ok (.goto (-230), 3) := by decide +kernel
theorem dX11_rank_318 : decode cX11_rank 318 = .ok (.iload_n 3, 1) := by decide +kernel
theorem dX11_rank_319 : decode cX11_rank 319 = .ok (.ireturn, 1) := by decide +kernel
theorem dX11_common_0 : decode cX11_common 0 = .ok (.lload_n 0, 1) := by decide +kernel
theorem dX11_common_1 : decode cX11_common 1 = .ok (.lconst 0, 1) := by decide +kernel
theorem dX11_common_2 : decode cX11_common 2 = .ok (.lcmp, 1) := by decide +kernel
theorem dX11_common_3 : decode cX11_common 3 = .ok (.ifCond .ge 8, 3) := by decide +kernel
theorem dX11_common_6 : decode cX11_common 6 = .ok (.lload_n 0, 1) := by decide +kernel
theorem dX11_common_7 : decode cX11_common 7 = .ok (.lneg, 1) := by decide +kernel
theorem dX11_common_8 : decode cX11_common 8 = .ok (.goto 4, 3) := by decide +kernel
theorem dX11_common_11 : decode cX11_common 11 = .ok (.lload_n 0, 1) := by decide +kernel
theorem dX11_common_12 : decode cX11_common 12 = .ok (.lstore 4, 2) := by decide +kernel
theorem dX11_common_14 : decode cX11_common 14 = .ok (.lload_n 2, 1) := by decide +kernel
theorem dX11_common_15 : decode cX11_common 15 = .ok (.lconst 0, 1) := by decide +kernel
theorem dX11_common_16 : decode cX11_common 16 = .ok (.lcmp, 1) := by decide +kernel
theorem dX11_common_17 : decode cX11_common 17 = .ok (.ifCond .ge 8, 3) := by decide +kernel
theorem dX11_common_20 : decode cX11_common 20 = .ok (.lload_n 2, 1) := by decide +kernel
theorem dX11_common_21 : decode cX11_common 21 = .ok (.lneg, 1) := by decide +kernel
theorem dX11_common_22 : decode cX11_common 22 = .ok (.goto 4, 3) := by decide +kernel
theorem dX11_common_25 : decode cX11_common 25 = .ok (.lload_n 2, 1) := by decide +kernel
theorem dX11_common_26 : decode cX11_common 26 = .ok (.lstore 6, 2) := by decide +kernel
theorem dX11_common_28 : decode cX11_common 28 = .ok (.lload 6, 2) := by decide +kernel
theorem dX11_common_30 : decode cX11_common 30 = .ok (.lconst 0, 1) := by decide +kernel
theorem dX11_common_31 : decode cX11_common 31 = .ok (.lcmp, 1) := by decide +kernel
theorem dX11_common_32 : decode cX11_common 32 = .ok (.ifCond .eq 21, 3) := by decide +kernel
theorem dX11_common_35 : decode cX11_common 35 = .ok (.lload 4, 2) := by decide +kernel
theorem dX11_common_37 : decode cX11_common 37 = .ok (.lload 6, 2) := by decide +kernel
theorem dX11_common_39 : decode cX11_common 39 = .ok (.lrem, 1) := by decide +kernel
theorem dX11_common_40 : decode cX11_common 40 = .ok (.lstore 8, 2) := by decide +kernel
theorem dX11_common_42 : decode cX11_common 42 = .ok (.lload 6, 2) := by decide +kernel
theorem dX11_common_44 : decode cX11_common 44 = .ok (.lstore 4, 2) := by decide +kernel
theorem dX11_common_46 : decode cX11_common 46 = .ok (.lload 8, 2) := by decide +kernel
theorem dX11_common_48 : decode cX11_common 48 = .ok (.lstore 6, 2) := by decide +kernel
theorem dX11_common_50 : decode cX11_common 50 = .ok (.goto (-22), 3) := by decide +kernel
theorem dX11_common_53 : decode cX11_common 53 = .ok (.lload 4, 2) := by decide +kernel
theorem dX11_common_55 : decode cX11_common 55 = .ok (.lreturn, 1) := by decide +kernel
theorem dX11_part_0 : decode cX11_part 0 = .ok (.lload_n 0, 1) := by decide +kernel
theorem dX11_part_1 : decode cX11_part 1 = .ok (.lload_n 2, 1) := by decide +kernel
theorem dX11_part_2 : decode cX11_part 2 = .ok (.invokestatic 125, 3) := by decide +kernel
theorem dX11_part_5 : decode cX11_part 5 = .ok (.lstore 5, 2) := by decide +kernel
theorem dX11_part_7 : decode cX11_part 7 = .ok (.iload 4, 2) := by decide +kernel
theorem dX11_part_9 : decode cX11_part 9 = .ok (.ifCond .eq 10, 3) := by decide +kernel
theorem dX11_part_12 : decode cX11_part 12 = .ok (.lload_n 2, 1) := by decide +kernel
theorem dX11_part_13 : decode cX11_part 13 = .ok (.lload 5, 2) := by decide +kernel
theorem dX11_part_15 : decode cX11_part 15 = .ok (.ldiv, 1) := by decide +kernel
theorem dX11_part_16 : decode cX11_part 16 = .ok (.goto 7, 3) := by decide +kernel
theorem dX11_part_19 : decode cX11_part 19 = .ok (.lload_n 0, 1) := by decide +kernel
theorem dX11_part_20 : decode cX11_part 20 = .ok (.lload 5, 2) := by decide +kernel
theorem dX11_part_22 : decode cX11_part 22 = .ok (.ldiv, 1) := by decide +kernel
theorem dX11_part_23 : decode cX11_part 23 = .ok (.lreturn, 1) := by decide +kernel
theorem dX11_compare_0 : decode cX11_compare 0 = .ok (.lload_n 0, 1) := by decide +kernel
theorem dX11_compare_1 : decode cX11_compare 1 = .ok (.lstore 8, 2) := by decide +kernel
theorem dX11_compare_3 : decode cX11_compare 3 = .ok (.lload_n 2, 1) := by decide +kernel
theorem dX11_compare_4 : decode cX11_compare 4 = .ok (.lstore 10, 2) := by decide +kernel
theorem dX11_compare_6 : decode cX11_compare 6 = .ok (.lload 4, 2) := by decide +kernel
theorem dX11_compare_8 : decode cX11_compare 8 = .ok (.lstore 12, 2) := by decide +kernel
theorem dX11_compare_10 : decode cX11_compare 10 = .ok (.lload 6, 2) := by decide +kernel
theorem dX11_compare_12 : decode cX11_compare 12 = .ok (.lstore 14, 2) := by decide +kernel
theorem dX11_compare_14 : decode cX11_compare 14 = .ok (.lload 8, 2) := by decide +kernel
theorem dX11_compare_16 : decode cX11_compare 16 = .ok (.lload 10, 2) := by decide +kernel
theorem dX11_compare_18 : decode cX11_compare 18 = .ok (.invokestatic 129, 3) := by decide +kernel
theorem dX11_compare_21 : decode cX11_compare 21 = .ok (.lstore 16, 2) := by decide +kernel
theorem dX11_compare_23 : decode cX11_compare 23 = .ok (.lload 12, 2) := by decide +kernel
theorem dX11_compare_25 : decode cX11_compare 25 = .ok (.lload 14, 2) := by decide +kernel
theorem dX11_compare_27 : decode cX11_compare 27 = .ok (.invokestatic 129, 3) := by decide +kernel
theorem dX11_compare_30 : decode cX11_compare 30 = .ok (.lstore 18, 2) := by decide +kernel
theorem dX11_compare_32 : decode cX11_compare 32 = .ok (.lload 16, 2) := by decide +kernel
theorem dX11_compare_34 : decode cX11_compare 34 = .ok (.lload 18, 2) := by decide +kernel
theorem dX11_compare_36 : decode cX11_compare 36 = .ok (.lcmp, 1) := by decide +kernel
theorem dX11_compare_37 : decode cX11_compare 37 = .ok (.ifCond .eq 17, 3) := by decide +kernel
theorem dX11_compare_40 : decode cX11_compare 40 = .ok (.lload 16, 2) := by decide +kernel
theorem dX11_compare_42 : decode cX11_compare 42 = .ok (.lload 18, 2) := by decide +kernel
theorem dX11_compare_44 : decode cX11_compare 44 = .ok (.lcmp, 1) := by decide +kernel
theorem dX11_compare_45 : decode cX11_compare 45 = .ok (.ifCond .ge 7, 3) := by decide +kernel
theorem dX11_compare_48 : decode cX11_compare 48 = .ok (.iconst (-1), 1) := by decide +kernel
theorem dX11_compare_49 : decode cX11_compare 49 = .ok (.goto 4, 3) := by decide +kernel
theorem dX11_compare_52 : decode cX11_compare 52 = .ok (.iconst 1, 1) := by decide +kernel
theorem dX11_compare_53 : decode cX11_compare 53 = .ok (.ireturn, 1) := by decide +kernel
theorem dX11_compare_54 : decode cX11_compare 54 = .ok (.lload 8, 2) := by decide +kernel
theorem dX11_compare_56 : decode cX11_compare 56 = .ok (.lload 10, 2) := by decide +kernel
theorem dX11_compare_58 : decode cX11_compare 58 = .ok (.invokestatic 134, 3) := by decide +kernel
theorem dX11_compare_61 : decode cX11_compare 61 = .ok (.lstore 20, 2) := by decide +kernel
theorem dX11_compare_63 : decode cX11_compare 63 = .ok (.lload 12, 2) := by decide +kernel
theorem dX11_compare_65 : decode cX11_compare 65 = .ok (.lload 14, 2) := by decide +kernel
theorem dX11_compare_67 : decode cX11_compare 67 = .ok (.invokestatic 134, 3) := by decide +kernel
theorem dX11_compare_70 : decode cX11_compare 70 = .ok (.lstore 22, 2) := by decide +kernel
theorem dX11_compare_72 : decode cX11_compare 72 = .ok (.lload 20, 2) := by decide +kernel
theorem dX11_compare_74 : decode cX11_compare 74 = .ok (.lconst 0, 1) := by decide +kernel
theorem dX11_compare_75 : decode cX11_compare 75 = .ok (.lcmp, 1) := by decide +kernel
theorem dX11_compare_76 : decode cX11_compare 76 = .ok (.ifCond .eq 10, 3) := by decide +kernel
theorem dX11_compare_79 : decode cX11_compare 79 = .ok (.lload 22, 2) := by decide +kernel
theorem dX11_compare_81 : decode cX11_compare 81 = .ok (.lconst 0, 1) := by decide +kernel
theorem dX11_compare_82 : decode cX11_compare 82 = .ok (.lcmp, 1) := by decide +kernel
theorem dX11_compare_83 : decode cX11_compare 83 = .ok (.ifCond .ne 28, 3) := by decide +kernel
theorem dX11_compare_86 : decode cX11_compare 86 = .ok (.lload 20, 2) := by decide +kernel
theorem dX11_compare_88 : decode cX11_compare 88 = .ok (.lload 22, 2) := by decide +kernel
theorem dX11_compare_90 : decode cX11_compare 90 = .ok (.lcmp, 1) := by decide +kernel
theorem dX11_compare_91 : decode cX11_compare 91 = .ok (.ifCond .ne 7, 3) := by decide +kernel
theorem dX11_compare_94 : decode cX11_compare 94 = .ok (.iconst 0, 1) := by decide +kernel
theorem dX11_compare_95 : decode cX11_compare 95 = .ok (.goto 15, 3) := by decide +kernel
theorem dX11_compare_98 : decode cX11_compare 98 = .ok (.lload 20, 2) := by decide +kernel
theorem dX11_compare_100 : decode cX11_compare 100 = .ok (.lconst 0, 1) := by decide +kernel
theorem dX11_compare_101 : decode cX11_compare 101 = .ok (.lcmp, 1) := by decide +kernel
theorem dX11_compare_102 : decode cX11_compare 102 = .ok (.ifCond .ne 7, 3) := by decide +kernel
theorem dX11_compare_105 : decode cX11_compare 105 = .ok (.iconst (-1), 1) := by decide +kernel
theorem dX11_compare_106 : decode cX11_compare 106 = .ok (.goto 4, 3) := by decide +kernel
theorem dX11_compare_109 : decode cX11_compare 109 = .ok (.iconst 1, 1) := by decide +kernel
theorem dX11_compare_110 : decode cX11_compare 110 = .ok (.ireturn, 1) := by decide +kernel
theorem dX11_compare_111 : decode cX11_compare 111 = .ok (.lload 14, 2) := by decide +kernel
theorem dX11_compare_113 : decode cX11_compare 113 = .ok (.lstore 8, 2) := by decide +kernel
theorem dX11_compare_115 : decode cX11_compare 115 = .ok (.lload 20, 2) := by decide +kernel
theorem dX11_compare_117 : decode cX11_compare 117 = .ok (.lstore 14, 2) := by decide +kernel
theorem dX11_compare_119 : decode cX11_compare 119 = .ok (.lload 10, 2) := by decide +kernel
theorem dX11_compare_121 : decode cX11_compare 121 = .ok (.lstore 12, 2) := by decide +kernel
theorem dX11_compare_123 : decode cX11_compare 123 = .ok (.lload 22, 2) := by decide +kernel
theorem dX11_compare_125 : decode cX11_compare 125 = .ok (.lstore 10, 2) := by decide +kernel
theorem dX11_compare_127 : decode cX11_compare 127 = .ok (.goto (-113), 3) := by decide +kernel
theorem dX11_becomesFound_0 : decode cX11_becomesFound 0 = .ok (.aload_n 0, 1) := by decide +kernel
theorem dX11_becomesFound_1 : decode cX11_becomesFound 1 = .ok (.iconst 1, 1) := by decide +kernel
theorem dX11_becomesFound_2 : decode cX11_becomesFound 2 = .ok (.putfield 137, 3) := by decide +kernel
theorem dX11_becomesFound_5 : decode cX11_becomesFound 5 = .ok (.aload_n 0, 1) := by decide +kernel
theorem dX11_becomesFound_6 : decode cX11_becomesFound 6 = .ok (.iconst 0, 1) := by decide +kernel
theorem dX11_becomesFound_7 : decode cX11_becomesFound 7 = .ok (.putfield 70, 3) := by decide +kernel
theorem dX11_becomesFound_10 : decode cX11_becomesFound 10 = .ok (.aload_n 0, 1) := by decide +kernel
theorem dX11_becomesFound_11 : decode cX11_becomesFound 11 = .ok (.iload_n 1, 1) := by decide +kernel
theorem dX11_becomesFound_12 : decode cX11_becomesFound 12 = .ok (.putfield 140, 3) := by decide +kernel
theorem dX11_becomesFound_15 : decode cX11_becomesFound 15 = .ok (.aload_n 0, 1) := by decide +kernel
theorem dX11_becomesFound_16 : decode cX11_becomesFound 16 = .ok (.aload_n 0, 1) := by decide +kernel
theorem dX11_becomesFound_17 : decode cX11_becomesFound 17 = .ok (.getfield 101, 3) := by decide +kernel
theorem dX11_becomesFound_20 : decode cX11_becomesFound 20 = .ok (.putfield 143, 3) := by decide +kernel
theorem dX11_becomesFound_23 : decode cX11_becomesFound 23 = .ok (.aload_n 0, 1) := by decide +kernel
theorem dX11_becomesFound_24 : decode cX11_becomesFound 24 = .ok (.aload_n 0, 1) := by decide +kernel
theorem dX11_becomesFound_25 : decode cX11_becomesFound 25 = .ok (.getfield 121, 3) := by decide +kernel
theorem dX11_becomesFound_28 : decode cX11_becomesFound 28 = .ok (.putfield 146, 3) := by decide +kernel
theorem dX11_becomesFound_31 : decode cX11_becomesFound 31 = .ok (.iconst 0, 1) := by decide +kernel
theorem dX11_becomesFound_32 : decode cX11_becomesFound 32 = .ok (.istore_n 2, 1) := by decide +kernel
theorem dX11_becomesFound_33 : decode cX11_becomesFound 33 = .ok (.iload_n 2, 1) := by decide +kernel
theorem dX11_becomesFound_34 : decode cX11_becomesFound 34 = .ok (.aload_n 0, 1) := by decide +kernel
theorem dX11_becomesFound_35 : decode cX11_becomesFound 35 = .ok (.getfield 101, 3) := by decide +kernel
theorem dX11_becomesFound_38 : decode cX11_becomesFound 38 = .ok (.if_icmp .ge 33, 3) := by decide +kernel
theorem dX11_becomesFound_41 : decode cX11_becomesFound 41 = .ok (.aload_n 0, 1) := by decide +kernel
theorem dX11_becomesFound_42 : decode cX11_becomesFound 42 = .ok (.getfield 35, 3) := by decide +kernel
theorem dX11_becomesFound_45 : decode cX11_becomesFound 45 = .ok (.iload_n 2, 1) := by decide +kernel
theorem dX11_becomesFound_46 : decode cX11_becomesFound 46 = .ok (.aload_n 0, 1) := by decide +kernel
theorem dX11_becomesFound_47 : decode cX11_becomesFound 47 = .ok (.getfield 41, 3) := by decide +kernel
theorem dX11_becomesFound_50 : decode cX11_becomesFound 50 = .ok (.iload_n 2, 1) := by decide +kernel
theorem dX11_becomesFound_51 : decode cX11_becomesFound 51 = .ok (.iaload, 1) := by decide +kernel
theorem dX11_becomesFound_52 : decode cX11_becomesFound 52 = .ok (.iastore, 1) := by decide +kernel
theorem dX11_becomesFound_53 : decode cX11_becomesFound 53 = .ok (.aload_n 0, 1) := by decide +kernel
theorem dX11_becomesFound_54 : decode cX11_becomesFound 54 = .ok (.getfield 38, 3) := by decide +kernel
theorem dX11_becomesFound_57 : decode cX11_becomesFound 57 = .ok (.iload_n 2, 1) := by decide +kernel
theorem dX11_becomesFound_58 : decode cX11_becomesFound 58 = .ok (.aload_n 0, 1) := by decide +kernel
theorem dX11_becomesFound_59 : decode cX11_becomesFound 59 = .ok (.getfield 50, 3) := by decide +kernel
theorem dX11_becomesFound_62 : decode cX11_becomesFound 62 = .ok (.iload_n 2, 1) := by decide +kernel
theorem dX11_becomesFound_63 : decode cX11_becomesFound 63 = .ok (.laload, 1) := by decide +kernel
theorem dX11_becomesFound_64 : decode cX11_becomesFound 64 = .ok (.lastore, 1) := by decide +kernel
theorem dX11_becomesFound_65 : decode cX11_becomesFound 65 = .ok (.iinc 2 1, 3) := by decide +kernel
theorem dX11_becomesFound_68 : decode cX11_becomesFound 68 = .ok (.goto (-35), 3) := by decide +kernel
theorem dX11_becomesFound_71 : decode cX11_becomesFound 71 = .ok (.aload_n 0, 1) := by decide +kernel
theorem dX11_becomesFound_72 : decode cX11_becomesFound 72 = .ok (.aload_n 0, 1) := by decide +kernel
theorem dX11_becomesFound_73 : decode cX11_becomesFound 73 = .ok (.invokevirtual 149, 3) := by decide +kernel
theorem dX11_becomesFound_76 : decode cX11_becomesFound 76 = .ok (.putfield 153, 3) := by decide +kernel
theorem dX11_becomesFound_79 : decode cX11_becomesFound 79 = .ok (.return_, 1) := by decide +kernel
theorem dX11_bits_0 : decode cX11_bits 0 = .ok (.iconst 0, 1) := by decide +kernel
theorem dX11_bits_1 : decode cX11_bits 1 = .ok (.istore_n 1, 1) := by decide +kernel
theorem dX11_bits_2 : decode cX11_bits 2 = .ok (.iconst 0, 1) := by decide +kernel
theorem dX11_bits_3 : decode cX11_bits 3 = .ok (.istore_n 2, 1) := by decide +kernel
theorem dX11_bits_4 : decode cX11_bits 4 = .ok (.iload_n 2, 1) := by decide +kernel
theorem dX11_bits_5 : decode cX11_bits 5 = .ok (.bipush 32, 2) := by decide +kernel
theorem dX11_bits_7 : decode cX11_bits 7 = .ok (.if_icmp .ge 17, 3) := by decide +kernel
theorem dX11_bits_10 : decode cX11_bits 10 = .ok (.iload_n 1, 1) := by decide +kernel
theorem dX11_bits_11 : decode cX11_bits 11 = .ok (.iload_n 0, 1) := by decide +kernel
theorem dX11_bits_12 : decode cX11_bits 12 = .ok (.iload_n 2, 1) := by decide +kernel
theorem dX11_bits_13 : decode cX11_bits 13 = .ok (.iushr, 1) := by decide +kernel
theorem dX11_bits_14 : decode cX11_bits 14 = .ok (.iconst 1, 1) := by decide +kernel
theorem dX11_bits_15 : decode cX11_bits 15 = .ok (.iand, 1) := by decide +kernel
theorem dX11_bits_16 : decode cX11_bits 16 = .ok (.iadd, 1) := by decide +kernel
theorem dX11_bits_17 : decode cX11_bits 17 = .ok (.istore_n 1, 1) := by decide +kernel
theorem dX11_bits_18 : decode cX11_bits 18 = .ok (.iinc 2 1, 3) := by decide +kernel
theorem dX11_bits_21 : decode cX11_bits 21 = .ok (.goto (-17), 3) := by decide +kernel
theorem dX11_bits_24 : decode cX11_bits 24 = .ok (.iload_n 1, 1) := by decide +kernel
theorem dX11_bits_25 : decode cX11_bits 25 = .ok (.ireturn, 1) := by decide +kernel
theorem dX11_find_0 : decode cX11_find 0 = .ok (.iload_n 1, 1) := by decide +kernel
theorem dX11_find_1 : decode cX11_find 1 = .ok (.iconst 1, 1) := by decide +kernel
theorem dX11_find_2 : decode cX11_find 2 = .ok (.if_icmp .lt 23, 3) := by decide +kernel
theorem dX11_find_5 : decode cX11_find 5 = .ok (.iload_n 1, 1) := by decide +kernel
theorem dX11_find_6 : decode cX11_find 6 = .ok (.iconst 1, 1) := by decide +kernel
theorem dX11_find_7 : decode cX11_find 7 = .ok (.aload_n 0, 1) := by decide +kernel
theorem dX11_find_8 : decode cX11_find 8 = .ok (.getfield 9, 3) := by decide +kernel
theorem dX11_find_11 : decode cX11_find 11 = .ok (.iconst 0, 1) := by decide +kernel
theorem dX11_find_12 : decode cX11_find 12 = .ok (.iaload, 1) := by decide +kernel
theorem dX11_find_13 : decode cX11_find 13 = .ok (.ishl, 1) := by decide +kernel
theorem dX11_find_14 : decode cX11_find 14 = .ok (.if_icmp .ge 11, 3) := by decide +kernel
theorem dX11_find_17 : decode cX11_find 17 = .ok (.iload_n 1, 1) := by decide +kernel
theorem dX11_find_18 : decode cX11_find 18 = .ok (.invokestatic 156, 3) := by decide +kernel
theorem dX11_find_21 : decode cX11_find 21 = .ok (.iconst 4, 1) := by decide +kernel
theorem dX11_find_22 : decode cX11_find 22 = .ok (.if_icmp .le 11, 3) := by decide +kernel
theorem dX11_find_25 : decode cX11_find 25 = .ok (.aload_n 0, 1) := by decide +kernel
theorem dX11_find_26 : decode cX11_find 26 = .ok (.ldc2_w 62, 3) := by decide +kernel
theorem dX11_find_29 : decode cX11_find 29 = .ok (.invokevirtual 64, 3) := by decide +kernel
theorem dX11_find_32 : decode cX11_find 32 = .ok (.lreturn, 1) := by decide +kernel
theorem dX11_find_33 : decode cX11_find 33 = .ok (.aload_n 0, 1) := by decide +kernel
theorem dX11_find_34 : decode cX11_find 34 = .ok (.iload_n 1, 1) := by decide +kernel
theorem dX11_find_35 : decode cX11_find 35 = .ok (.invokevirtual 160, 3) := by decide +kernel
theorem dX11_find_38 : decode cX11_find 38 = .ok (.aload_n 0, 1) := by decide +kernel
theorem dX11_find_39 : decode cX11_find 39 = .ok (.iconst (-1), 1) := by decide +kernel
theorem dX11_find_40 : decode cX11_find 40 = .ok (.invokevirtual 164, 3) := by decide +kernel
theorem dX11_find_43 : decode cX11_find 43 = .ok (.ifCond .eq 14, 3) := by decide +kernel
theorem dX11_find_46 : decode cX11_find 46 = .ok (.aload_n 0, 1) := by decide +kernel
theorem dX11_find_47 : decode cX11_find 47 = .ok (.iload_n 1, 1) := by decide +kernel
theorem dX11_find_48 : decode cX11_find 48 = .ok (.invokevirtual 167, 3) := by decide +kernel
theorem dX11_find_51 : decode cX11_find 51 = .ok (.aload_n 0, 1) := by decide +kernel
theorem dX11_find_52 : decode cX11_find 52 = .ok (.getfield 101, 3) := by decide +kernel
theorem dX11_find_55 : decode cX11_find 55 = .ok (.i2l, 1) := by decide +kernel
theorem dX11_find_56 : decode cX11_find 56 = .ok (.lreturn, 1) := by decide +kernel
theorem dX11_find_57 : decode cX11_find 57 = .ok (.aload_n 0, 1) := by decide +kernel
theorem dX11_find_58 : decode cX11_find 58 = .ok (.lconst 0, 1) := by decide +kernel
theorem dX11_find_59 : decode cX11_find 59 = .ok (.putfield 170, 3) := by decide +kernel
theorem dX11_find_62 : decode cX11_find 62 = .ok (.aload_n 0, 1) := by decide +kernel
theorem dX11_find_63 : decode cX11_find 63 = .ok (.iconst (-1), 1) := by decide +kernel
theorem dX11_find_64 : decode cX11_find 64 = .ok (.invokevirtual 173, 3) := by decide +kernel
theorem dX11_find_67 : decode cX11_find 67 = .ok (.istore_n 2, 1) := by decide +kernel
theorem dX11_find_68 : decode cX11_find 68 = .ok (.iconst 0, 1) := by decide +kernel
theorem dX11_find_69 : decode cX11_find 69 = .ok (.istore_n 3, 1) := by decide +kernel
theorem dX11_find_70 : decode cX11_find 70 = .ok (.iload_n 3, 1) := by decide +kernel
theorem dX11_find_71 : decode cX11_find 71 = .ok (.aload_n 0, 1) := by decide +kernel
theorem dX11_find_72 : decode cX11_find 72 = .ok (.getfield 101, 3) := by decide +kernel
theorem dX11_find_75 : decode cX11_find 75 = .ok (.if_icmp .ge 39, 3) := by decide +kernel
theorem dX11_find_78 : decode cX11_find 78 = .ok (.aload_n 0, 1) := by decide +kernel
theorem dX11_find_79 : decode cX11_find 79 = .ok (.dup, 1) := by decide +kernel
theorem dX11_find_80 : decode cX11_find 80 = .ok (.getfield 170, 3) := by decide +kernel
theorem dX11_find_83 : decode cX11_find 83 = .ok (.aload_n 0, 1) := by decide +kernel
theorem dX11_find_84 : decode cX11_find 84 = .ok (.iload_n 3, 1) := by decide +kernel
theorem dX11_find_85 : decode cX11_find 85 = .ok (.invokevirtual 173, 3) := by decide +kernel
theorem dX11_find_88 : decode cX11_find 88 = .ok (.iload_n 2, 1) := by decide +kernel
theorem dX11_find_89 : decode cX11_find 89 = .ok (.if_icmp .ne 14, 3) := by decide +kernel
theorem dX11_find_92 : decode cX11_find 92 = .ok (.lconst 1, 1) := by decide +kernel
theorem dX11_find_93 : decode cX11_find 93 = .ok (.aload_n 0, 1) := by decide +kernel
theorem dX11_find_94 : decode cX11_find 94 = .ok (.getfield 41, 3) := by decide +kernel
theorem dX11_find_97 : decode cX11_find 97 = .ok (.iload_n 3, 1) := by decide +kernel
theorem dX11_find_98 : decode cX11_find 98 = .ok (.iaload, 1) := by decide +kernel
theorem dX11_find_99 : decode cX11_find 99 = .ok (.lshl, 1) := by decide +kernel
theorem dX11_find_100 : decode cX11_find 100 = .ok (.goto 4, 3) := by decide +kernel
theorem dX11_find_103 : decode cX11_find 103 = .ok (.lconst 0, 1) := by decide +kernel
theorem dX11_find_104 : decode cX11_find 104 = .ok (.lor, 1) := by decide +kernel
theorem dX11_find_105 : decode cX11_find 105 = .ok (.putfield 170, 3) := by decide +kernel
theorem dX11_find_108 : decode cX11_find 108 = .ok (.iinc 3 1, 3) := by decide +kernel
theorem dX11_find_111 : decode cX11_find 111 = .ok (.goto (-41), 3) := by decide +kernel
theorem dX11_find_114 : decode cX11_find 114 = .ok (.aload_n 0, 1) := by decide +kernel
theorem dX11_find_115 : decode cX11_find 115 = .ok (.ldc2_w 176, 3) := by decide +kernel
theorem dX11_find_118 : decode cX11_find 118 = .ok (.invokevirtual 64, 3) := by decide +kernel
theorem dX11_find_121 : decode cX11_find 121 = .ok (.lreturn, 1) := by decide +kernel
theorem dX11_loose_0 : decode cX11_loose 0 = .ok (.aload_n 0, 1) := by decide +kernel
