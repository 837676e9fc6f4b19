theorem dX11_shown_51 : decode cX11_shown 51 = .ok (.iload 6, 2) := by decide +kernel
theorem dX11_shown_53 : decode cX11_shown 53 = .ok (.isub, 1) := by decide +kernel
theorem dX11_shown_54 : decode cX11_shown 54 = .ok (.bipush 8, 2) := by decide +kernel
theorem dX11_shown_56 : decode cX11_shown 56 = .ok (.iadd, 1) := by decide +kernel
theorem dX11_shown_57 : decode cX11_shown 57 = .ok (.iconst 4, 1) := by decide +kernel
theorem dX11_shown_58 : decode cX11_shown 58 = .ok (.irem, 1) := by decide +kernel
theorem dX11_shown_59 : decode cX11_shown 59 = .ok (.istore 8, 2) := by decide +kernel
theorem dX11_shown_61 : decode cX11_shown 61 = .ok (.aload_n 0, 1) := by decide +kernel
theorem dX11_shown_62 : decode cX11_shown 62 = .ok (.getfield 9, 3) := by decide +kernel
theorem dX11_shown_65 : decode cX11_shown 65 = .ok (.bipush 8, 2) := by decide +kernel
theorem dX11_shown_67 : decode cX11_shown 67 = .ok (.iload_n 1, 1) := by decide +kernel
theorem dX11_shown_68 : decode cX11_shown 68 = .ok (.iadd, 1) := by decide +kernel
theorem dX11_shown_69 : decode cX11_shown 69 = .ok (.iaload, 1) := by decide +kernel
theorem dX11_shown_70 : decode cX11_shown 70 = .ok (.tableswitch 124 0 4 #[34, 36, 62, 77, 102], 34) := by decide +kernel
theorem dX11_shown_104 : decode cX11_shown 104 = .ok (.lconst 1, 1) := by decide +kernel
theorem dX11_shown_105 : decode cX11_shown 105 = .ok (.lreturn, 1) := by decide +kernel
theorem dX11_shown_106 : decode cX11_shown 106 = .ok (.iload 8, 2) := by decide +kernel
theorem dX11_shown_108 : decode cX11_shown 108 = .ok (.ifCond .ne 9, 3) := by decide +kernel
theorem dX11_shown_111 : decode cX11_shown 111 = .ok (.iload 7, 2) := by decide +kernel
theorem dX11_shown_113 : decode cX11_shown 113 = .ok (.i2l, 1) := by decide +kernel
theorem dX11_shown_114 : decode cX11_shown 114 = .ok (.goto 17, 3) := by decide +kernel
theorem dX11_shown_117 : decode cX11_shown 117 = .ok (.iload 8, 2) := by decide +kernel
theorem dX11_shown_119 : decode cX11_shown 119 = .ok (.iconst 2, 1) := by decide +kernel
theorem dX11_shown_120 : decode cX11_shown 120 = .ok (.if_icmp .ne 10, 3) := by decide +kernel
theorem dX11_shown_123 : decode cX11_shown 123 = .ok (.iload 7, 2) := by decide +kernel
theorem dX11_shown_125 : decode cX11_shown 125 = .ok (.ineg, 1) := by decide +kernel
theorem dX11_shown_126 : decode cX11_shown 126 = .ok (.i2l, 1) := by decide +kernel
theorem dX11_shown_127 : decode cX11_shown 127 = .ok (.goto 4, 3) := by decide +kernel
theorem dX11_shown_130 : decode cX11_shown 130 = .ok (.lconst 0, 1) := by decide +kernel
theorem dX11_shown_131 : decode cX11_shown 131 = .ok (.lreturn, 1) := by decide +kernel
theorem dX11_shown_132 : decode cX11_shown 132 = .ok (.iload 4, 2) := by decide +kernel
theorem dX11_shown_134 : decode cX11_shown 134 = .ok (.ifCond .ne 9, 3) := by decide +kernel
theorem dX11_shown_137 : decode cX11_shown 137 = .ok (.iload 6, 2) := by decide +kernel
theorem dX11_shown_139 : decode cX11_shown 139 = .ok (.i2l, 1) := by decide +kernel
theorem dX11_shown_140 : decode cX11_shown 140 = .ok (.goto 6, 3) := by decide +kernel
theorem dX11_shown_143 : decode cX11_shown 143 = .ok (.iload 7, 2) := by decide +kernel
theorem dX11_shown_145 : decode cX11_shown 145 = .ok (.i2l, 1) := by decide +kernel
theorem dX11_shown_146 : decode cX11_shown 146 = .ok (.lreturn, 1) := by decide +kernel
theorem dX11_shown_147 : decode cX11_shown 147 = .ok (.iload 4, 2) := by decide +kernel
theorem dX11_shown_149 : decode cX11_shown 149 = .ok (.ifCond .ne 8, 3) := by decide +kernel
theorem dX11_shown_152 : decode cX11_shown 152 = .ok (.iload 6, 2) := by decide +kernel
theorem dX11_shown_154 : decode cX11_shown 154 = .ok (.goto 5, 3) := by decide +kernel
theorem dX11_shown_157 : decode cX11_shown 157 = .ok (.iload 7, 2) := by decide +kernel
theorem dX11_shown_159 : decode cX11_shown 159 = .ok (.iload 5, 2) := by decide +kernel
theorem dX11_shown_161 : decode cX11_shown 161 = .ok (.ifCond .ne 7, 3) := by decide +kernel
theorem dX11_shown_164 : decode cX11_shown 164 = .ok (.iconst 1, 1) := by decide +kernel
theorem dX11_shown_165 : decode cX11_shown 165 = .ok (.goto 4, 3) := by decide +kernel
theorem dX11_shown_168 : decode cX11_shown 168 = .ok (.iconst 0, 1) := by decide +kernel
theorem dX11_shown_169 : decode cX11_shown 169 = .ok (.iadd, 1) := by decide +kernel
theorem dX11_shown_170 : decode cX11_shown 170 = .ok (.i2l, 1) := by decide +kernel
theorem dX11_shown_171 : decode cX11_shown 171 = .ok (.lreturn, 1) := by decide +kernel
theorem dX11_shown_172 : decode cX11_shown 172 = .ok (.iload 6, 2) := by decide +kernel
theorem dX11_shown_174 : decode cX11_shown 174 = .ok (.iload 5, 2) := by decide +kernel
theorem dX11_shown_176 : decode cX11_shown 176 = .ok (.iconst 1, 1) := by decide +kernel
theorem dX11_shown_177 : decode cX11_shown 177 = .ok (.isub, 1) := by decide +kernel
theorem dX11_shown_178 : decode cX11_shown 178 = .ok (.imul, 1) := by decide +kernel
theorem dX11_shown_179 : decode cX11_shown 179 = .ok (.iload 5, 2) := by decide +kernel
theorem dX11_shown_181 : decode cX11_shown 181 = .ok (.iconst 1, 1) := by decide +kernel
theorem dX11_shown_182 : decode cX11_shown 182 = .ok (.if_icmp .ne 8, 3) := by decide +kernel
theorem dX11_shown_185 : decode cX11_shown 185 = .ok (.iload 7, 2) := by decide +kernel
theorem dX11_shown_187 : decode cX11_shown 187 = .ok (.goto 4, 3) := by decide +kernel
theorem dX11_shown_190 : decode cX11_shown 190 = .ok (.iconst 0, 1) := by decide +kernel
theorem dX11_shown_191 : decode cX11_shown 191 = .ok (.iadd, 1) := by decide +kernel
theorem dX11_shown_192 : decode cX11_shown 192 = .ok (.i2l, 1) := by decide +kernel
theorem dX11_shown_193 : decode cX11_shown 193 = .ok (.lreturn, 1) := by decide +kernel
theorem dX11_shown_194 : decode cX11_shown 194 = .ok (.iload 8, 2) := by decide +kernel
theorem dX11_shown_196 : decode cX11_shown 196 = .ok (.ifCond .ne 9, 3) := by decide +kernel
theorem dX11_shown_199 : decode cX11_shown 199 = .ok (.iload 7, 2) := by decide +kernel
theorem dX11_shown_201 : decode cX11_shown 201 = .ok (.i2l, 1) := by decide +kernel
theorem dX11_shown_202 : decode cX11_shown 202 = .ok (.goto 26, 3) := by decide +kernel
theorem dX11_shown_205 : decode cX11_shown 205 = .ok (.iload 8, 2) := by decide +kernel
theorem dX11_shown_207 : decode cX11_shown 207 = .ok (.iconst 2, 1) := by decide +kernel
theorem dX11_shown_208 : decode cX11_shown 208 = .ok (.if_icmp .ne 10, 3) := by decide +kernel
theorem dX11_shown_211 : decode cX11_shown 211 = .ok (.iload 7, 2) := by decide +kernel
theorem dX11_shown_213 : decode cX11_shown 213 = .ok (.ineg, 1) := by decide +kernel
theorem dX11_shown_214 : decode cX11_shown 214 = .ok (.i2l, 1) := by decide +kernel
theorem dX11_shown_215 : decode cX11_shown 215 = .ok (.goto 13, 3) := by decide +kernel
theorem dX11_shown_218 : decode cX11_shown 218 = .ok (.iload 8, 2) := by decide +kernel
theorem dX11_shown_220 : decode cX11_shown 220 = .ok (.ifCond .ge 7, 3) := by decide +kernel
theorem dX11_shown_223 : decode cX11_shown 223 = .ok (.lconst 0, 1) := by decide +kernel
theorem dX11_shown_224 : decode cX11_shown 224 = .ok (.goto 4, 3) := by decide +kernel
theorem dX11_shown_227 : decode cX11_shown 227 = .ok (.lconst 1, 1) := by decide +kernel
theorem dX11_shown_228 : decode cX11_shown 228 = .ok (.lreturn, 1) := by decide +kernel
theorem dX11_shows_0 : decode cX11_shows 0 = .ok (.aload_n 0, 1) := by decide +kernel
theorem dX11_shows_1 : decode cX11_shows 1 = .ok (.iload_n 1, 1) := by decide +kernel
theorem dX11_shows_2 : decode cX11_shows 2 = .ok (.invokevirtual 74, 3) := by decide +kernel
theorem dX11_shows_5 : decode cX11_shows 5 = .ok (.ifCond .eq 19, 3) := by decide +kernel
theorem dX11_shows_8 : decode cX11_shows 8 = .ok (.iload_n 2, 1) := by decide +kernel
theorem dX11_shows_9 : decode cX11_shows 9 = .ok (.invokestatic 78, 3) := by decide +kernel
theorem dX11_shows_12 : decode cX11_shows 12 = .ok (.ifCond .eq 12, 3) := by decide +kernel
theorem dX11_shows_15 : decode cX11_shows 15 = .ok (.aload_n 0, 1) := by decide +kernel
theorem dX11_shows_16 : decode cX11_shows 16 = .ok (.iload_n 1, 1) := by decide +kernel
theorem dX11_shows_17 : decode cX11_shows 17 = .ok (.iload_n 2, 1) := by decide +kernel
theorem dX11_shows_18 : decode cX11_shows 18 = .ok (.invokevirtual 81, 3) := by decide +kernel
theorem dX11_shows_21 : decode cX11_shows 21 = .ok (.goto 10, 3) := by decide +kernel
theorem dX11_shows_24 : decode cX11_shows 24 = .ok (.aload_n 0, 1) := by decide +kernel
theorem dX11_shows_25 : decode cX11_shows 25 = .ok (.ldc2_w 62, 3) := by decide +kernel
theorem dX11_shows_28 : decode cX11_shows 28 = .ok (.invokevirtual 64, 3) := by decide +kernel
theorem dX11_shows_31 : decode cX11_shows 31 = .ok (.lreturn, 1) := by decide +kernel
theorem dX11_as_0 : decode cX11_as 0 = .ok (.aload_n 0, 1) := by decide +kernel
theorem dX11_as_1 : decode cX11_as 1 = .ok (.iload_n 1, 1) := by decide +kernel
theorem dX11_as_2 : decode cX11_as 2 = .ok (.invokevirtual 74, 3) := by decide +kernel
theorem dX11_as_5 : decode cX11_as 5 = .ok (.ifCond .eq 12, 3) := by decide +kernel
theorem dX11_as_8 : decode cX11_as 8 = .ok (.iload_n 2, 1) := by decide +kernel
theorem dX11_as_9 : decode cX11_as 9 = .ok (.iconst 0, 1) := by decide +kernel
theorem dX11_as_10 : decode cX11_as 10 = .ok (.iconst 5, 1) := by decide +kernel
theorem dX11_as_11 : decode cX11_as 11 = .ok (.invokestatic 58, 3) := by decide +kernel
theorem dX11_as_14 : decode cX11_as 14 = .ok (.ifCond .ne 11, 3) := by decide +kernel
theorem dX11_as_17 : decode cX11_as 17 = .ok (.aload_n 0, 1) := by decide +kernel
theorem dX11_as_18 : decode cX11_as 18 = .ok (.ldc2_w 62, 3) := by decide +kernel
theorem dX11_as_21 : decode cX11_as 21 = .ok (.invokevirtual 64, 3) := by decide +kernel
theorem dX11_as_24 : decode cX11_as 24 = .ok (.lreturn, 1) := by decide +kernel
theorem dX11_as_25 : decode cX11_as 25 = .ok (.aload_n 0, 1) := by decide +kernel
theorem dX11_as_26 : decode cX11_as 26 = .ok (.getfield 9, 3) := by decide +kernel
theorem dX11_as_29 : decode cX11_as 29 = .ok (.bipush 8, 2) := by decide +kernel
theorem dX11_as_31 : decode cX11_as 31 = .ok (.iload_n 1, 1) := by decide +kernel
theorem dX11_as_32 : decode cX11_as 32 = .ok (.iadd, 1) := by decide +kernel
theorem dX11_as_33 : decode cX11_as 33 = .ok (.iaload, 1) := by decide +kernel
theorem dX11_as_34 : decode cX11_as 34 = .ok (.istore_n 3, 1) := by decide +kernel
theorem dX11_as_35 : decode cX11_as 35 = .ok (.iload_n 2, 1) := by decide +kernel
theorem dX11_as_36 : decode cX11_as 36 = .ok (.ifCond .eq 28, 3) := by decide +kernel
theorem dX11_as_39 : decode cX11_as 39 = .ok (.iload_n 3, 1) := by decide +kernel
theorem dX11_as_40 : decode cX11_as 40 = .ok (.iload_n 2, 1) := by decide +kernel
theorem dX11_as_41 : decode cX11_as 41 = .ok (.if_icmp .eq 23, 3) := by decide +kernel
theorem dX11_as_44 : decode cX11_as 44 = .ok (.iload_n 3, 1) := by decide +kernel
theorem dX11_as_45 : decode cX11_as 45 = .ok (.iconst 5, 1) := by decide +kernel
theorem dX11_as_46 : decode cX11_as 46 = .ok (.if_icmp .ne 8, 3) := by decide +kernel
theorem dX11_as_49 : decode cX11_as 49 = .ok (.iload_n 2, 1) := by decide +kernel
theorem dX11_as_50 : decode cX11_as 50 = .ok (.iconst 1, 1) := by decide +kernel
theorem dX11_as_51 : decode cX11_as 51 = .ok (.if_icmp .eq 13, 3) := by decide +kernel
theorem dX11_as_54 : decode cX11_as 54 = .ok (.iload_n 3, 1) := by decide +kernel
theorem dX11_as_55 : decode cX11_as 55 = .ok (.iconst 3, 1) := by decide +kernel
theorem dX11_as_56 : decode cX11_as 56 = .ok (.if_icmp .ne 12, 3) := by decide +kernel
theorem dX11_as_59 : decode cX11_as 59 = .ok (.iload_n 2, 1) := by decide +kernel
theorem dX11_as_60 : decode cX11_as 60 = .ok (.iconst 2, 1) := by decide +kernel
theorem dX11_as_61 : decode cX11_as 61 = .ok (.if_icmp .ne 7, 3) := by decide +kernel
theorem dX11_as_64 : decode cX11_as 64 = .ok (.iconst 1, 1) := by decide +kernel
theorem dX11_as_65 : decode cX11_as 65 = .ok (.goto 4, 3) := by decide +kernel
theorem dX11_as_68 : decode cX11_as 68 = .ok (.iconst 0, 1) := by decide +kernel
theorem dX11_as_69 : decode cX11_as 69 = .ok (.istore 4, 2) := by decide +kernel
theorem dX11_as_71 : decode cX11_as 71 = .ok (.iload 4, 2) := by decide +kernel
theorem dX11_as_73 : decode cX11_as 73 = .ok (.ifCond .eq 16, 3) := by decide +kernel
theorem dX11_as_76 : decode cX11_as 76 = .ok (.aload_n 0, 1) := by decide +kernel
theorem dX11_as_77 : decode cX11_as 77 = .ok (.getfield 9, 3) := by decide +kernel
theorem dX11_as_80 : decode cX11_as 80 = .ok (.bipush 16, 2) := by decide +kernel
theorem dX11_as_82 : decode cX11_as 82 = .ok (.iload_n 1, 1) := by decide +kernel
theorem dX11_as_83 : decode cX11_as 83 = .ok (.iadd, 1) := by decide +kernel
theorem dX11_as_84 : decode cX11_as 84 = .ok (.iaload, 1) := by decide +kernel
theorem dX11_as_85 : decode cX11_as 85 = .ok (.i2l, 1) := by decide +kernel
theorem dX11_as_86 : decode cX11_as 86 = .ok (.goto 10, 3) := by decide +kernel
theorem dX11_as_89 : decode cX11_as 89 = .ok (.aload_n 0, 1) := by decide +kernel
theorem dX11_as_90 : decode cX11_as 90 = .ok (.ldc2_w 85, 3) := by decide +kernel
theorem dX11_as_93 : decode cX11_as 93 = .ok (.invokevirtual 64, 3) := by decide +kernel
theorem dX11_as_96 : decode cX11_as 96 = .ok (.lreturn, 1) := by decide +kernel
theorem dX11_addReading_0 : decode cX11_addReading 0 = .ok (.aload_n 0, 1) := by decide +kernel
theorem dX11_addReading_1 : decode cX11_addReading 1 = .ok (.getfield 9, 3) := by decide +kernel
theorem dX11_addReading_4 : decode cX11_addReading 4 = .ok (.iconst 1, 1) := by decide +kernel
theorem dX11_addReading_5 : decode cX11_addReading 5 = .ok (.iaload, 1) := by decide +kernel
theorem dX11_addReading_6 : decode cX11_addReading 6 = .ok (.istore_n 3, 1) := by decide +kernel
theorem dX11_addReading_7 : decode cX11_addReading 7 = .ok (.aload_n 0, 1) := by decide +kernel
theorem dX11_addReading_8 : decode cX11_addReading 8 = .ok (.getfield 9, 3) := by decide +kernel
theorem dX11_addReading_11 : decode cX11_addReading 11 = .ok (.bipush 32, 2) := by decide +kernel
theorem dX11_addReading_13 : decode cX11_addReading 13 = .ok (.iload_n 3, 1) := by decide +kernel
theorem dX11_addReading_14 : decode cX11_addReading 14 = .ok (.iadd, 1) := by decide +kernel
theorem dX11_addReading_15 : decode cX11_addReading 15 = .ok (.iload_n 1, 1) := by decide +kernel
theorem dX11_addReading_16 : decode cX11_addReading 16 = .ok (.iastore, 1) := by decide +kernel
theorem dX11_addReading_17 : decode cX11_addReading 17 = .ok (.aload_n 0, 1) := by decide +kernel
theorem dX11_addReading_18 : decode cX11_addReading 18 = .ok (.getfield 9, 3) := by decide +kernel
theorem dX11_addReading_21 : decode cX11_addReading 21 = .ok (.bipush 52, 2) := by decide +kernel
theorem dX11_addReading_23 : decode cX11_addReading 23 = .ok (.iload_n 3, 1) := by decide +kernel
theorem dX11_addReading_24 : decode cX11_addReading 24 = .ok (.iadd, 1) := by decide +kernel
theorem dX11_addReading_25 : decode cX11_addReading 25 = .ok (.iload_n 2, 1) := by decide +kernel
theorem dX11_addReading_26 : decode cX11_addReading 26 = .ok (.iastore, 1) := by decide +kernel
theorem dX11_addReading_27 : decode cX11_addReading 27 = .ok (.aload_n 0, 1) := by decide +kernel
theorem dX11_addReading_28 : decode cX11_addReading 28 = .ok (.getfield 9, 3) := by decide +kernel
theorem dX11_addReading_31 : decode cX11_addReading 31 = .ok (.iconst 1, 1) := by decide +kernel
theorem dX11_addReading_32 : decode cX11_addReading 32 = .ok (.dup2, 1) := by decide +kernel
theorem dX11_addReading_33 : decode cX11_addReading 33 = .ok (.iaload, 1) := by decide +kernel
theorem dX11_addReading_34 : decode cX11_addReading 34 = .ok (.iconst 1, 1) := by decide +kernel
theorem dX11_addReading_35 : decode cX11_addReading 35 = .ok (.iadd, 1) := by decide +kernel
theorem dX11_addReading_36 : decode cX11_addReading 36 = .ok (.iastore, 1) := by decide +kernel
theorem dX11_addReading_37 : decode cX11_addReading 37 = .ok (.return_, 1) := by decide +kernel
theorem dX11_read_0 : decode cX11_read 0 = .ok (.iload_n 1, 1) := by decide +kernel
theorem dX11_read_1 : decode cX11_read 1 = .ok (.invokestatic 78, 3) := by decide +kernel
theorem dX11_read_4 : decode cX11_read 4 = .ok (.ifCond .eq 16, 3) := by decide +kernel
theorem dX11_read_7 : decode cX11_read 7 = .ok (.iload_n 2, 1) := by decide +kernel
theorem dX11_read_8 : decode cX11_read 8 = .ok (.sipush (-300), 3) := by decide +kernel
theorem dX11_read_11 : decode cX11_read 11 = .ok (.sipush 300, 3) := by decide +kernel
theorem dX11_read_14 : decode cX11_read 14 = .ok (.invokestatic 58, 3) := by decide +kernel
theorem dX11_read_17 : decode cX11_read 17 = .ok (.ifCond .ne 11, 3) := by decide +kernel
theorem dX11_read_20 : decode cX11_read 20 = .ok (.aload_n 0, 1) := by decide +kernel
theorem dX11_read_21 : decode cX11_read 21 = .ok (.ldc2_w 62, 3) := by decide +kernel
theorem dX11_read_24 : decode cX11_read 24 = .ok (.invokevirtual 64, 3) := by decide +kernel
theorem dX11_read_27 : decode cX11_read 27 = .ok (.lreturn, 1) := by decide +kernel
theorem dX11_read_28 : decode cX11_read 28 = .ok (.aload_n 0, 1) := by decide +kernel
theorem dX11_read_29 : decode cX11_read 29 = .ok (.getfield 9, 3) := by decide +kernel
theorem dX11_read_32 : decode cX11_read 32 = .ok (.iconst 1, 1) := by decide +kernel
theorem dX11_read_33 : decode cX11_read 33 = .ok (.iaload, 1) := by decide +kernel
theorem dX11_read_34 : decode cX11_read 34 = .ok (.bipush 20, 2) := by decide +kernel
theorem dX11_read_36 : decode cX11_read 36 = .ok (.if_icmp .ne 11, 3) := by decide +kernel
theorem dX11_read_39 : decode cX11_read 39 = .ok (.aload_n 0, 1) := by decide +kernel
theorem dX11_read_40 : decode cX11_read 40 = .ok (.ldc2_w 68, 3) := by decide +kernel
theorem dX11_read_43 : decode cX11_read 43 = .ok (.invokevirtual 64, 3) := by decide +kernel
theorem dX11_read_46 : decode cX11_read 46 = .ok (.lreturn, 1) := by decide +kernel
theorem dX11_read_47 : decode cX11_read 47 = .ok (.aload_n 0, 1) := by decide +kernel
theorem dX11_read_48 : decode cX11_read 48 = .ok (.iload_n 1, 1) := by decide +kernel
theorem dX11_read_49 : decode cX11_read 49 = .ok (.iload_n 2, 1) := by decide +kernel
theorem dX11_read_50 : decode cX11_read 50 = .ok (.invokevirtual 87, 3) := by decide +kernel
theorem dX11_read_53 : decode cX11_read 53 = .ok (.aload_n 0, 1) := by decide +kernel
theorem dX11_read_54 : decode cX11_read 54 = .ok (.iconst 1, 1) := by decide +kernel
theorem dX11_read_55 : decode cX11_read 55 = .ok (.putfield 70, 3) := by decide +kernel
theorem dX11_read_58 : decode cX11_read 58 = .ok (.aload_n 0, 1) := by decide +kernel
theorem dX11_read_59 : decode cX11_read 59 = .ok (.getfield 9, 3) := by decide +kernel
theorem dX11_read_62 : decode cX11_read 62 = .ok (.iconst 1, 1) := by decide +kernel
theorem dX11_read_63 : decode cX11_read 63 = .ok (.iaload, 1) := by decide +kernel
theorem dX11_read_64 : decode cX11_read 64 = .ok (.iconst 1, 1) := by decide +kernel
theorem dX11_read_65 : decode cX11_read 65 = .ok (.isub, 1) := by decide +kernel
theorem dX11_read_66 : decode cX11_read 66 = .ok (.i2l, 1) := by decide +kernel
theorem dX11_read_67 : decode cX11_read 67 = .ok (.lreturn, 1) := by decide +kernel
theorem dX11_isReading_0 : decode cX11_isReading 0 = .ok (.iload_n 1, 1) := by decide +kernel
theorem dX11_isReading_1 : decode cX11_isReading 1 = .ok (.iconst 0, 1) := by decide +kernel
theorem dX11_isReading_2 : decode cX11_isReading 2 = .ok (.aload_n 0, 1) := by decide +kernel
theorem dX11_isReading_3 : decode cX11_isReading 3 = .ok (.getfield 9, 3) := by decide +kernel
theorem dX11_isReading_6 : decode cX11_isReading 6 = .ok (.iconst 1, 1) := by decide +kernel
theorem dX11_isReading_7 : decode cX11_isReading 7 = .ok (.iaload, 1) := by decide +kernel
theorem dX11_isReading_8 : decode cX11_isReading 8 = .ok (.iconst 1, 1) := by decide +kernel
theorem dX11_isReading_9 : decode cX11_isReading 9 = .ok (.isub, 1) := by decide +kernel
theorem dX11_isReading_10 : decode cX11_isReading 10 = .ok (.invokestatic 58, 3) := by decide +kernel
theorem dX11_isReading_13 : decode cX11_isReading 13 = .ok (.ireturn, 1) := by decide +kernel
theorem dX11_drop_0 : decode cX11_drop 0 = .ok (.aload_n 0, 1) := by decide +kernel
theorem dX11_drop_1 : decode cX11_drop 1 = .ok (.iload_n 1, 1) := by decide +kernel
theorem dX11_drop_2 : decode cX11_drop 2 = .ok (.invokevirtual 91, 3) := by decide +kernel
theorem dX11_drop_5 : decode cX11_drop 5 = .ok (.ifCond .ne 11, 3) := by decide +kernel
theorem dX11_drop_8 : decode cX11_drop 8 = .ok (.aload_n 0, 1) := by decide +kernel
theorem dX11_drop_9 : decode cX11_drop 9 = .ok (.ldc2_w 62, 3) := by decide +kernel
theorem dX11_drop_12 : decode cX11_drop 12 = .ok (.invokevirtual 64, 3) := by decide +kernel
theorem dX11_drop_15 : decode cX11_drop 15 = .ok (.lreturn, 1) := by decide +kernel
theorem dX11_drop_16 : decode cX11_drop 16 = .ok (.aload_n 0, 1) := by decide +kernel
theorem dX11_drop_17 : decode cX11_drop 17 = .ok (.getfield 9, 3) := by decide +kernel
theorem dX11_drop_20 : decode cX11_drop 20 = .ok (.iconst 1, 1) := by decide +kernel
theorem dX11_drop_21 : decode cX11_drop 21 = .ok (.dup2, 1) := by decide +kernel
theorem dX11_drop_22 : decode cX11_drop 22 = .ok (.iaload, 1) := by decide +kernel
theorem dX11_drop_23 : decode cX11_drop 23 = .ok (.iconst 1, 1) := by decide +kernel
theorem dX11_drop_24 : decode cX11_drop 24 = .ok (.isub, 1) := by decide +kernel
theorem dX11_drop_25 : decode cX11_drop 25 = .ok (.iastore, 1) := by decide +kernel
theorem dX11_drop_26 : decode cX11_drop 26 = .ok (.iload_n 1, 1) := by decide +kernel
theorem dX11_drop_27 : decode cX11_drop 27 = .ok (.istore_n 2, 1) := by decide +kernel
theorem dX11_drop_28 : decode cX11_drop 28 = .ok (.iload_n 2, 1) := by decide +kernel
theorem dX11_drop_29 : decode cX11_drop 29 = .ok (.aload_n 0, 1) := by decide +kernel
theorem dX11_drop_30 : decode cX11_drop 30 = .ok (.getfield 9, 3) := by decide +kernel
theorem dX11_drop_33 : decode cX11_drop 33 = .ok (.iconst 1, 1) := by decide +kernel
theorem dX11_drop_34 : decode cX11_drop 34 = .ok (.iaload, 1) := by decide +kernel
theorem dX11_drop_35 : decode cX11_drop 35 = .ok (.if_icmp .ge 49, 3) := by decide +kernel
theorem dX11_drop_38 : decode cX11_drop 38 = .ok (.aload_n 0, 1) := by decide +kernel
theorem dX11_drop_39 : decode cX11_drop 39 = .ok (.getfield 9, 3) := by decide +kernel
theorem dX11_drop_42 : decode cX11_drop 42 = .ok (.bipush 32, 2) := by decide +kernel
theorem dX11_drop_44 : decode cX11_drop 44 = .ok (.iload_n 2, 1) := by decide +kernel
theorem dX11_drop_45 : decode cX11_drop 45 = .ok (.iadd, 1) := by decide +kernel
theorem dX11_drop_46 : decode cX11_drop 46 = .ok (.aload_n 0, 1) := by decide +kernel
theorem dX11_drop_47 : decode cX11_drop 47 = .ok (.getfield 9, 3) := by decide +kernel
theorem dX11_drop_50 : decode cX11_drop 50 = .ok (.bipush 32, 2) := by decide +kernel
theorem dX11_drop_52 : decode cX11_drop 52 = .ok (.iload_n 2, 1) := by decide +kernel
theorem dX11_drop_53 : decode cX11_drop 53 = .ok (.iadd, 1) := by decide +kernel
theorem dX11_drop_54 : decode cX11_drop 54 = .ok (.iconst 1, 1) := by decide +kernel
theorem dX11_drop_55 : decode cX11_drop 55 = .ok (.iadd, 1) := by decide +kernel
theorem dX11_drop_56 : decode cX11_drop 56 = .ok (.iaload, 1) := by decide +kernel
theorem dX11_drop_57 : decode cX11_drop 57 = .ok (.iastore, 1) := by decide +kernel
theorem dX11_drop_58 : decode cX11_drop 58 = .ok (.aload_n 0, 1) := by decide +kernel
theorem dX11_drop_59 : decode cX11_drop 59 = .ok (.getfield 9, 3) := by decide +kernel
theorem dX11_drop_62 : decode cX11_drop 62 = .ok (.bipush 52, 2) := by decide +kernel
theorem dX11_drop_64 : decode cX11_drop 64 = .ok (.iload_n 2, 1) := by decide +kernel
theorem dX11_drop_65 : decode cX11_drop 65 = .ok (.iadd, 1) := by decide +kernel
theorem dX11_drop_66 : decode cX11_drop 66 = .ok (.aload_n 0, 1) := by decide +kernel
theorem dX11_drop_67 : decode cX11_drop 67 = .ok (.getfield 9, 3) := by decide +kernel
theorem dX11_drop_70 : decode cX11_drop 70 = .ok (.bipush 52, 2) := by decide +kernel
theorem dX11_drop_72 : decode cX11_drop 72 = .ok (.iload_n 2, 1) := by decide +kernel
theorem dX11_drop_73 : decode cX11_drop 73 = .ok (.iadd, 1) := by decide +kernel
theorem dX11_drop_74 : decode cX11_drop 74 = .ok (.iconst 1, 1) := by decide +kernel
theorem dX11_drop_75 : decode cX11_drop 75 = .ok (.iadd, 1) := by decide +kernel
theorem dX11_drop_76 : decode cX11_drop 76 = .ok (.iaload, 1) := by decide +kernel
theorem dX11_drop_77 : decode cX11_drop 77 = .ok (.iastore, 1) := by decide +kernel
theorem dX11_drop_78 : decode cX11_drop 78 = .ok (.iinc 2 1, 3) := by decide +kernel
theorem dX11_drop_81 : decode cX11_drop 81 = .ok (.goto (-53), 3) := by decide +kernel
theorem dX11_drop_84 : decode cX11_drop 84 = .ok (.aload_n 0, 1) := by decide +kernel
theorem dX11_drop_85 : decode cX11_drop 85 = .ok (.iconst 1, 1) := by decide +kernel
theorem dX11_drop_86 : decode cX11_drop 86 = .ok (.putfield 70, 3) := by decide +kernel
theorem dX11_drop_89 : decode cX11_drop 89 = .ok (.aload_n 0, 1) := by decide +kernel
theorem dX11_drop_90 : decode cX11_drop 90 = .ok (.getfield 9, 3) := by decide +kernel
theorem dX11_drop_93 : decode cX11_drop 93 = .ok (.iconst 1, 1) := by decide +kernel
theorem dX11_drop_94 : decode cX11_drop 94 = .ok (.iaload, 1) := by decide +kernel
theorem dX11_drop_95 : decode cX11_drop 95 = .ok (.i2l, 1) := by decide +kernel
theorem dX11_drop_96 : decode cX11_drop 96 = .ok (.lreturn, 1) := by decide +kernel
theorem dX11_reading_0 : decode cX11_reading 0 = .ok (.aload_n 0, 1) := by decide +kernel
theorem dX11_reading_1 : decode cX11_reading 1 = .ok (.iload_n 1, 1) := by decide +kernel
theorem dX11_reading_2 : decode cX11_reading 2 = .ok (.invokevirtual 91, 3) := by decide +kernel
theorem dX11_reading_5 : decode cX11_reading 5 = .ok (.ifCond .eq 12, 3) := by decide +kernel
theorem dX11_reading_8 : decode cX11_reading 8 = .ok (.iload_n 2, 1) := by decide +kernel
theorem dX11_reading_9 : decode cX11_reading 9 = .ok (.iconst 0, 1) := by decide +kernel
theorem dX11_reading_10 : decode cX11_reading 10 = .ok (.iconst 1, 1) := by decide +kernel
theorem dX11_reading_11 : decode cX11_reading 11 = .ok (.invokestatic 58, 3) := by decide +kernel
theorem dX11_reading_14 : decode cX11_reading 14 = .ok (.ifCond .ne 11, 3) := by decide +kernel
theorem dX11_reading_17 : decode cX11_reading 17 = .ok (.aload_n 0, 1) := by decide +kernel
theorem dX11_reading_18 : decode cX11_reading 18 = .ok (.ldc2_w 62, 3) := by decide +kernel
theorem dX11_reading_21 : decode cX11_reading 21 = .ok (.invokevirtual 64, 3) := by decide +kernel
theorem dX11_reading_24 : decode cX11_reading 24 = .ok (.lreturn, 1) := by decide +kernel
theorem dX11_reading_25 : decode cX11_reading 25 = .ok (.iload_n 2, 1) := by decide +kernel
theorem dX11_reading_26 : decode cX11_reading 26 = .ok (.ifCond .ne 16, 3) := by decide +kernel
theorem dX11_reading_29 : decode cX11_reading 29 = .ok (.aload_n 0, 1) := by decide +kernel
theorem dX11_reading_30 : decode cX11_reading 30 = .ok (.getfield 9, 3) := by decide +kernel
theorem dX11_reading_33 : decode cX11_reading 33 = .ok (.bipush 32, 2) := by decide +kernel
theorem dX11_reading_35 : decode cX11_reading 35 = .ok (.iload_n 1, 1) := by decide +kernel
theorem dX11_reading_36 : decode cX11_reading 36 = .ok (.iadd, 1) := by decide +kernel
theorem dX11_reading_37 : decode cX11_reading 37 = .ok (.iaload, 1) := by decide +kernel
theorem dX11_reading_38 : decode cX11_reading 38 = .ok (.i2l, 1) := by decide +kernel
theorem dX11_reading_39 : decode cX11_reading 39 = .ok (.goto 13, 3) := by decide +kernel
theorem dX11_reading_42 : decode cX11_reading 42 = .ok (.aload_n 0, 1) := by decide +kernel
theorem dX11_reading_43 : decode cX11_reading 43 = .ok (.getfield 9, 3) := by decide +kernel
theorem dX11_reading_46 : decode cX11_reading 46 = .ok (.bipush 52, 2) := by decide +kernel
theorem dX11_reading_48 : decode cX11_reading 48 = .ok (.iload_n 1, 1) := by decide +kernel
theorem dX11_reading_49 : decode cX11_reading 49 = .ok (.iadd, 1) := by decide +kernel
theorem dX11_reading_50 : decode cX11_reading 50 = .ok (.iaload, 1) := by decide +kernel
theorem dX11_reading_51 : decode cX11_reading 51 = .ok (.i2l, 1) := by decide +kernel
theorem dX11_reading_52 : decode cX11_reading 52 = .ok (.lreturn, 1) := by decide +kernel
theorem dX11_sheet_0 : decode cX11_sheet 0 = .ok (.iload_n 1, 1) := by decide +kernel
theorem dX11_sheet_1 : decode cX11_sheet 1 = .ok (.iconst 0, 1) := by decide +kernel
theorem dX11_sheet_2 : decode cX11_sheet 2 = .ok (.iconst 2, 1) := by decide +kernel
theorem dX11_sheet_3 : decode cX11_sheet 3 = .ok (.invokestatic 58, 3) := by decide +kernel
theorem dX11_sheet_6 : decode cX11_sheet 6 = .ok (.ifCond .ne 11, 3) := by decide +kernel
theorem dX11_sheet_9 : decode cX11_sheet 9 = .ok (.aload_n 0, 1) := by decide +kernel
theorem dX11_sheet_10 : decode cX11_sheet 10 = .ok (.ldc2_w 62, 3) := by decide +kernel
theorem dX11_sheet_13 : decode cX11_sheet 13 = .ok (.invokevirtual 64, 3) := by decide +kernel
theorem dX11_sheet_16 : decode cX11_sheet 16 = .ok (.lreturn, 1) := by decide +kernel
theorem dX11_sheet_17 : decode cX11_sheet 17 = .ok (.iload_n 2, 1) := by decide +kernel
theorem dX11_sheet_18 : decode cX11_sheet 18 = .ok (.iconst (-1), 1) := by decide +kernel
theorem dX11_sheet_19 : decode cX11_sheet 19 = .ok (.if_icmp .ge 11, 3) := by decide +kernel
theorem dX11_sheet_22 : decode cX11_sheet 22 = .ok (.aload_n 0, 1) := by decide +kernel
theorem dX11_sheet_23 : decode cX11_sheet 23 = .ok (.ldc2_w 94, 3) := by decide +kernel
theorem dX11_sheet_26 : decode cX11_sheet 26 = .ok (.invokevirtual 64, 3) := by decide +kernel
theorem dX11_sheet_29 : decode cX11_sheet 29 = .ok (.lreturn, 1) := by decide +kernel
theorem dX11_sheet_30 : decode cX11_sheet 30 = .ok (.iload_n 2, 1) := by decide +kernel
theorem dX11_sheet_31 : decode cX11_sheet 31 = .ok (.bipush 36, 2) := by decide +kernel
theorem dX11_sheet_33 : decode cX11_sheet 33 = .ok (.if_icmp .le 11, 3) := by decide +kernel
theorem dX11_sheet_36 : decode cX11_sheet 36 = .ok (.aload_n 0, 1) := by decide +kernel
theorem dX11_sheet_37 : decode cX11_sheet 37 = .ok (.ldc2_w 62, 3) := by decide +kernel
theorem dX11_sheet_40 : decode cX11_sheet 40 = .ok (.invokevirtual 64, 3) := by decide +kernel
theorem dX11_sheet_43 : decode cX11_sheet 43 = .ok (.lreturn, 1) := by decide +kernel
theorem dX11_sheet_44 : decode cX11_sheet 44 = .ok (.aload_n 0, 1) := by decide +kernel
theorem dX11_sheet_45 : decode cX11_sheet 45 = .ok (.getfield 19, 3) := by decide +kernel
theorem dX11_sheet_48 : decode cX11_sheet 48 = .ok (.iload_n 1, 1) := by decide +kernel
theorem dX11_sheet_49 : decode cX11_sheet 49 = .ok (.iload_n 2, 1) := by decide +kernel
theorem dX11_sheet_50 : decode cX11_sheet 50 = .ok (.iastore, 1) := by decide +kernel
theorem dX11_sheet_51 : decode cX11_sheet 51 = .ok (.iconst 0, 1) := by decide +kernel
theorem dX11_sheet_52 : decode cX11_sheet 52 = .ok (.istore_n 3, 1) := by decide +kernel
theorem dX11_sheet_53 : decode cX11_sheet 53 = .ok (.iload_n 3, 1) := by decide +kernel
theorem dX11_sheet_54 : decode cX11_sheet 54 = .ok (.iload_n 2, 1) := by decide +kernel
theorem dX11_sheet_55 : decode cX11_sheet 55 = .ok (.if_icmp .ge 23, 3) := by decide +kernel
theorem dX11_sheet_58 : decode cX11_sheet 58 = .ok (.aload_n 0, 1) := by decide +kernel
theorem dX11_sheet_59 : decode cX11_sheet 59 = .ok (.getfield 16, 3) := by decide +kernel
theorem dX11_sheet_62 : decode cX11_sheet 62 = .ok (.bipush 36, 2) := by decide +kernel
theorem dX11_sheet_64 : decode cX11_sheet 64 = .ok (.iload_n 1, 1) := by decide +kernel
theorem dX11_sheet_65 : decode cX11_sheet 65 = .ok (.imul, 1) := by decide +kernel
theorem dX11_sheet_66 : decode cX11_sheet 66 = .ok (.iload_n 3, 1) := by decide +kernel
theorem dX11_sheet_67 : decode cX11_sheet 67 = .ok (.iadd, 1) := by decide +kernel
theorem dX11_sheet_68 : decode cX11_sheet 68 = .ok (.sipush (-32768), 3) := by decide +kernel
theorem dX11_sheet_71 : decode cX11_sheet 71 = .ok (.iastore, 1) := by decide +kernel
theorem dX11_sheet_72 : decode cX11_sheet 72 = .ok (.iinc 3 1, 3) := by decide +kernel
theorem dX11_sheet_75 : decode cX11_sheet 75 = .ok (.goto (-22), 3) := by decide +kernel
theorem dX11_sheet_78 : decode cX11_sheet 78 = .ok (.iload_n 2, 1) := by decide +kernel
theorem dX11_sheet_79 : decode cX11_sheet 79 = .ok (.i2l, 1) := by decide +kernel
theorem dX11_sheet_80 : decode cX11_sheet 80 = .ok (.lreturn, 1) := by decide +kernel
theorem dX11_put_0 : decode cX11_put 0 = .ok (.iload_n 1, 1) := by decide +kernel
theorem dX11_put_1 : decode cX11_put 1 = .ok (.iconst 0, 1) := by decide +kernel
theorem dX11_put_2 : decode cX11_put 2 = .ok (.iconst 2, 1) := by decide +kernel
theorem dX11_put_3 : decode cX11_put 3 = .ok (.invokestatic 58, 3) := by decide +kernel
theorem dX11_put_6 : decode cX11_put 6 = .ok (.ifCond .ne 11, 3) := by decide +kernel
theorem dX11_put_9 : decode cX11_put 9 = .ok (.aload_n 0, 1) := by decide +kernel
theorem dX11_put_10 : decode cX11_put 10 = .ok (.ldc2_w 62, 3) := by decide +kernel
theorem dX11_put_13 : decode cX11_put 13 = .ok (.invokevirtual 64, 3) := by decide +kernel
theorem dX11_put_16 : decode cX11_put 16 = .ok (.lreturn, 1) := by decide +kernel
theorem dX11_put_17 : decode cX11_put 17 = .ok (.aload_n 0, 1) := by decide +kernel
theorem dX11_put_18 : decode cX11_put 18 = .ok (.getfield 19, 3) := by decide +kernel
theorem dX11_put_21 : decode cX11_put 21 = .ok (.iload_n 1, 1) := by decide +kernel
theorem dX11_put_22 : decode cX11_put 22 = .ok (.iaload, 1) := by decide +kernel
theorem dX11_put_23 : decode cX11_put 23 = .ok (.ifCond .ge 11, 3) := by decide +kernel
theorem dX11_put_26 : decode cX11_put 26 = .ok (.aload_n 0, 1) := by decide +kernel
theorem dX11_put_27 : decode cX11_put 27 = .ok (.ldc2_w 96, 3) := by decide +kernel
theorem dX11_put_30 : decode cX11_put 30 = .ok (.invokevirtual 64, 3) := by decide +kernel
theorem dX11_put_33 : decode cX11_put 33 = .ok (.lreturn, 1) := by decide +kernel
theorem dX11_put_34 : decode cX11_put 34 = .ok (.iload_n 2, 1) := by decide +kernel
theorem dX11_put_35 : decode cX11_put 35 = .ok (.iconst 0, 1) := by decide +kernel
theorem dX11_put_36 : decode cX11_put 36 = .ok (.aload_n 0, 1) := by decide +kernel
theorem dX11_put_37 : decode cX11_put 37 = .ok (.getfield 19, 3) := by decide +kernel
theorem dX11_put_40 : decode cX11_put 40 = .ok (.iload_n 1, 1) := by decide +kernel
theorem dX11_put_41 : decode cX11_put 41 = .ok (.iaload, 1) := by decide +kernel
theorem dX11_put_42 : decode cX11_put 42 = .ok (.iconst 1, 1) := by decide +kernel
theorem dX11_put_43 : decode cX11_put 43 = .ok (.isub, 1) := by decide +kernel
theorem dX11_put_44 : decode cX11_put 44 = .ok (.invokestatic 58, 3) := by decide +kernel
theorem dX11_put_47 : decode cX11_put 47 = .ok (.ifCond .ne 11, 3) := by decide +kernel
theorem dX11_put_50 : decode cX11_put 50 = .ok (.aload_n 0, 1) := by decide +kernel
theorem dX11_put_51 : decode cX11_put 51 = .ok (.ldc2_w 62, 3) := by decide +kernel
theorem dX11_put_54 : decode cX11_put 54 = .ok (.invokevirtual 64, 3) := by decide +kernel
theorem dX11_put_57 : decode cX11_put 57 = .ok (.lreturn, 1) := by decide +kernel
theorem dX11_put_58 : decode cX11_put 58 = .ok (.iload_n 3, 1) := by decide +kernel
theorem dX11_put_59 : decode cX11_put 59 = .ok (.ldc 98, 2) := by decide +kernel
theorem dX11_put_61 : decode cX11_put 61 = .ok (.iand, 1) := by decide +kernel
theorem dX11_put_62 : decode cX11_put 62 = .ok (.istore 4, 2) := by decide +kernel
theorem dX11_put_64 : decode cX11_put 64 = .ok (.aload_n 0, 1) := by decide +kernel
theorem dX11_put_65 : decode cX11_put 65 = .ok (.getfield 16, 3) := by decide +kernel
theorem dX11_put_68 : decode cX11_put 68 = .ok (.bipush 36, 2) := by decide +kernel
theorem dX11_put_70 : decode cX11_put 70 = .ok (.iload_n 1, 1) := by decide +kernel
theorem dX11_put_71 : decode cX11_put 71 = .ok (.imul, 1) := by decide +kernel
theorem dX11_put_72 : decode cX11_put 72 = .ok (.iload_n 2, 1) := by decide +kernel
theorem dX11_put_73 : decode cX11_put 73 = .ok (.iadd, 1) := by decide +kernel
theorem dX11_put_74 : decode cX11_put 74 = .ok (.iload 4, 2) := by decide +kernel
theorem dX11_put_76 : decode cX11_put 76 = .ok (.ldc 99, 2) := by decide +kernel
theorem dX11_put_78 : decode cX11_put 78 = .ok (.if_icmp .ge 8, 3) := by decide +kernel
theorem dX11_put_81 : decode cX11_put 81 = .ok (.iload 4, 2) := by decide +kernel
theorem dX11_put_83 : decode cX11_put 83 = .ok (.goto 8, 3) := by decide +kernel
theorem dX11_put_86 : decode cX11_put 86 = .ok (.iload 4, 2) := by decide +kernel
theorem dX11_put_88 : decode cX11_put 88 = .ok (.ldc 100, 2) := by decide +kernel
theorem dX11_put_90 : decode cX11_put 90 = .ok (.isub, 1) := by decide +kernel
theorem dX11_put_91 : decode cX11_put 91 = .ok (.iastore, 1) := by decide +kernel
theorem dX11_put_92 : decode cX11_put 92 = .ok (.aload_n 0, 1) := by decide +kernel
theorem dX11_put_93 : decode cX11_put 93 = .ok (.getfield 16, 3) := by decide +kernel
theorem dX11_put_96 : decode cX11_put 96 = .ok (.bipush 36, 2) := by decide +kernel
theorem dX11_put_98 : decode cX11_put 98 = .ok (.iload_n 1, 1) := by decide +kernel
theorem dX11_put_99 : decode cX11_put 99 = .ok (.imul, 1) := by decide +kernel
theorem dX11_put_100 : decode cX11_put 100 = .ok (.iload_n 2, 1) := by decide +kernel
theorem dX11_put_101 : decode cX11_put 101 = .ok (.iadd, 1) := by decide +kernel
theorem dX11_put_102 : decode cX11_put 102 = .ok (.iaload, 1) := by decide +kernel
theorem dX11_put_103 : decode cX11_put 103 = .ok (.i2l, 1) := by decide +kernel
theorem dX11_put_104 : decode cX11_put 104 = .ok (.lreturn, 1) := by decide +kernel
theorem dX11_lay_0 : decode cX11_lay 0 = .ok (.iload_n 1, 1) := by decide +kernel
theorem dX11_lay_1 : decode cX11_lay 1 = .ok (.iconst 0, 1) := by decide +kernel
theorem dX11_lay_2 : decode cX11_lay 2 = .ok (.iconst 2, 1) := by decide +kernel
theorem dX11_lay_3 : decode cX11_lay 3 = .ok (.invokestatic 58, 3) := by decide +kernel
theorem dX11_lay_6 : decode cX11_lay 6 = .ok (.ifCond .ne 11, 3) := by decide +kernel
theorem dX11_lay_9 : decode cX11_lay 9 = .ok (.aload_n 0, 1) := by decide +kernel
theorem dX11_lay_10 : decode cX11_lay 10 = .ok (.ldc2_w 62, 3) := by decide +kernel
theorem dX11_lay_13 : decode cX11_lay 13 = .ok (.invokevirtual 64, 3) := by decide +kernel
theorem dX11_lay_16 : decode cX11_lay 16 = .ok (.lreturn, 1) := by decide +kernel
theorem dX11_lay_17 : decode cX11_lay 17 = .ok (.aload_n 0, 1) := by decide +kernel
theorem dX11_lay_18 : decode cX11_lay 18 = .ok (.getfield 19, 3) := by decide +kernel
theorem dX11_lay_21 : decode cX11_lay 21 = .ok (.iload_n 1, 1) := by decide +kernel
theorem dX11_lay_22 : decode cX11_lay 22 = .ok (.iaload, 1) := by decide +kernel
theorem dX11_lay_23 : decode cX11_lay 23 = .ok (.ifCond .ge 11, 3) := by decide +kernel
theorem dX11_lay_26 : decode cX11_lay 26 = .ok (.aload_n 0, 1) := by decide +kernel
theorem dX11_lay_27 : decode cX11_lay 27 = .ok (.ldc2_w 96, 3) := by decide +kernel
theorem dX11_lay_30 : decode cX11_lay 30 = .ok (.invokevirtual 64, 3) := by decide +kernel
theorem dX11_lay_33 : decode cX11_lay 33 = .ok (.lreturn, 1) := by decide +kernel
theorem dX11_lay_34 : decode cX11_lay 34 = .ok (.iload_n 2, 1) := by decide +kernel
theorem dX11_lay_35 : decode cX11_lay 35 = .ok (.ifCond .ge 11, 3) := by decide +kernel
theorem dX11_lay_38 : decode cX11_lay 38 = .ok (.aload_n 0, 1) := by decide +kernel
theorem dX11_lay_39 : decode cX11_lay 39 = .ok (.ldc2_w 94, 3) := by decide +kernel
theorem dX11_lay_42 : decode cX11_lay 42 = .ok (.invokevirtual 64, 3) := by decide +kernel
theorem dX11_lay_45 : decode cX11_lay 45 = .ok (.lreturn, 1) := by decide +kernel
theorem dX11_lay_46 : decode cX11_lay 46 = .ok (.iload_n 2, 1) := by decide +kernel
theorem dX11_lay_47 : decode cX11_lay 47 = .ok (.aload_n 0, 1) := by decide +kernel
theorem dX11_lay_48 : decode cX11_lay 48 = .ok (.getfield 19, 3) := by decide +kernel
theorem dX11_lay_51 : decode cX11_lay 51 = .ok (.iload_n 1, 1) := by decide +kernel
theorem dX11_lay_52 : decode cX11_lay 52 = .ok (.iaload, 1) := by decide +kernel
theorem dX11_lay_53 : decode cX11_lay 53 = .ok (.if_icmp .le 11, 3) := by decide +kernel
theorem dX11_lay_56 : decode cX11_lay 56 = .ok (.aload_n 0, 1) := by decide +kernel
theorem dX11_lay_57 : decode cX11_lay 57 = .ok (.ldc2_w 62, 3) := by decide +kernel
theorem dX11_lay_60 : decode cX11_lay 60 = .ok (.invokevirtual 64, 3) := by decide +kernel
theorem dX11_lay_63 : decode cX11_lay 63 = .ok (.lreturn, 1) := by decide +kernel
theorem dX11_lay_64 : decode cX11_lay 64 = .ok (.iconst 0, 1) := by decide +kernel
theorem dX11_lay_65 : decode cX11_lay 65 = .ok (.istore_n 3, 1) := by decide +kernel
theorem dX11_lay_66 : decode cX11_lay 66 = .ok (.iconst 1, 1) := by decide +kernel
theorem dX11_lay_67 : decode cX11_lay 67 = .ok (.istore 4, 2) := by decide +kernel
theorem dX11_lay_69 : decode cX11_lay 69 = .ok (.iconst 0, 1) := by decide +kernel
theorem dX11_lay_70 : decode cX11_lay 70 = .ok (.istore 5, 2) := by decide +kernel
theorem dX11_lay_72 : decode cX11_lay 72 = .ok (.iload 5, 2) := by decide +kernel
theorem dX11_lay_74 : decode cX11_lay 74 = .ok (.iload_n 2, 1) := by decide +kernel
theorem dX11_lay_75 : decode cX11_lay 75 = .ok (.if_icmp .ge 73, 3) := by decide +kernel
theorem dX11_lay_78 : decode cX11_lay 78 = .ok (.aload_n 0, 1) := by decide +kernel
theorem dX11_lay_79 : decode cX11_lay 79 = .ok (.getfield 16, 3) := by decide +kernel
theorem dX11_lay_82 : decode cX11_lay 82 = .ok (.bipush 36, 2) := by decide +kernel
theorem dX11_lay_84 : decode cX11_lay 84 = .ok (.iload_n 1, 1) := by decide +kernel
theorem dX11_lay_85 : decode cX11_lay 85 = .ok (.imul, 1) := by decide +kernel
theorem dX11_lay_86 : decode cX11_lay 86 = .ok (.iload 5, 2) := by decide +kernel
theorem dX11_lay_88 : decode cX11_lay 88 = .ok (.iadd, 1) := by decide +kernel
theorem dX11_lay_89 : decode cX11_lay 89 = .ok (.iaload, 1) := by decide +kernel
theorem dX11_lay_90 : decode cX11_lay 90 = .ok (.istore 6, 2) := by decide +kernel
theorem dX11_lay_92 : decode cX11_lay 92 = .ok (.iload_n 3, 1) := by decide +kernel
theorem dX11_lay_93 : decode cX11_lay 93 = .ok (.iload 6, 2) := by decide +kernel
theorem dX11_lay_95 : decode cX11_lay 95 = .ok (.sipush (-32768), 3) := by decide +kernel
theorem dX11_lay_98 : decode cX11_lay 98 = .ok (.if_icmp .ne 7, 3) := by decide +kernel
theorem dX11_lay_101 : decode cX11_lay 101 = .ok (.iconst 0, 1) := by decide +kernel
theorem dX11_lay_102 : decode cX11_lay 102 = .ok (.goto 4, 3) := by decide +kernel
theorem dX11_lay_105 : decode cX11_lay 105 = .ok (.iconst 1, 1) := by decide +kernel
theorem dX11_lay_106 : decode cX11_lay 106 = .ok (.iadd, 1) := by decide +kernel
theorem dX11_lay_107 : decode cX11_lay 107 = .ok (.istore_n 3, 1) := by decide +kernel
theorem dX11_lay_108 : decode cX11_lay 108 = .ok (.iload 4, 2) := by decide +kernel
theorem dX11_lay_110 : decode cX11_lay 110 = .ok (.ifCond .eq 29, 3) := by decide +kernel
theorem dX11_lay_113 : decode cX11_lay 113 = .ok (.iload 6, 2) := by decide +kernel
theorem dX11_lay_115 : decode cX11_lay 115 = .ok (.sipush (-32768), 3) := by decide +kernel
theorem dX11_lay_118 : decode cX11_lay 118 = .ok (.if_icmp .eq 17, 3) := by decide +kernel
theorem dX11_lay_121 : decode cX11_lay 121 = .ok (.iload 6, 2) := by decide +kernel
theorem dX11_lay_123 : decode cX11_lay 123 = .ok (.sipush (-300), 3) := by decide +kernel
theorem dX11_lay_126 : decode cX11_lay 126 = .ok (.sipush 300, 3) := by decide +kernel
theorem dX11_lay_129 : decode cX11_lay 129 = .ok (.invokestatic 58, 3) := by decide +kernel
theorem dX11_lay_132 : decode cX11_lay 132 = .ok (.ifCond .eq 7, 3) := by decide +kernel
theorem dX11_lay_135 : decode cX11_lay 135 = .ok (.iconst 1, 1) := by decide +kernel
theorem dX11_lay_136 : decode cX11_lay 136 = .ok (.goto 4, 3) := by decide +kernel
theorem dX11_lay_139 : decode cX11_lay 139 = .ok (.iconst 0, 1) := by decide +kernel
theorem dX11_lay_140 : decode cX11_lay 140 = .ok (.istore 4, 2) := by decide +kernel
theorem dX11_lay_142 : decode cX11_lay 142 = .ok (.iinc 5 1, 3) := by decide +kernel
theorem dX11_lay_145 : decode cX11_lay 145 = .ok (.goto (-73), 3) := by decide +kernel
theorem dX11_lay_148 : decode cX11_lay 148 = .ok (.iload 4, 2) := by decide +kernel
theorem dX11_lay_150 : decode cX11_lay 150 = .ok (.ifCond .ne 11, 3) := by decide +kernel
theorem dX11_lay_153 : decode cX11_lay 153 = .ok (.aload_n 0, 1) := by decide +kernel
theorem dX11_lay_154 : decode cX11_lay 154 = .ok (.ldc2_w 62, 3) := by decide +kernel
theorem dX11_lay_157 : decode cX11_lay 157 = .ok (.invokevirtual 64, 3) := by decide +kernel
theorem dX11_lay_160 : decode cX11_lay 160 = .ok (.lreturn, 1) := by decide +kernel
theorem dX11_lay_161 : decode cX11_lay 161 = .ok (.aload_n 0, 1) := by decide +kernel
theorem dX11_lay_162 : decode cX11_lay 162 = .ok (.getfield 9, 3) := by decide +kernel
theorem dX11_lay_165 : decode cX11_lay 165 = .ok (.iconst 1, 1) := by decide +kernel
theorem dX11_lay_166 : decode cX11_lay 166 = .ok (.iaload, 1) := by decide +kernel
theorem dX11_lay_167 : decode cX11_lay 167 = .ok (.iload_n 3, 1) := by decide +kernel
theorem dX11_lay_168 : decode cX11_lay 168 = .ok (.iadd, 1) := by decide +kernel
theorem dX11_lay_169 : decode cX11_lay 169 = .ok (.bipush 20, 2) := by decide +kernel
theorem dX11_lay_171 : decode cX11_lay 171 = .ok (.if_icmp .le 11, 3) := by decide +kernel
theorem dX11_lay_174 : decode cX11_lay 174 = .ok (.aload_n 0, 1) := by decide +kernel
theorem dX11_lay_175 : decode cX11_lay 175 = .ok (.ldc2_w 68, 3) := by decide +kernel
theorem dX11_lay_178 : decode cX11_lay 178 = .ok (.invokevirtual 64, 3) := by decide +kernel
theorem dX11_lay_181 : decode cX11_lay 181 = .ok (.lreturn, 1) := by decide +kernel
theorem dX11_lay_182 : decode cX11_lay 182 = .ok (.iconst 0, 1) := by decide +kernel
theorem dX11_lay_183 : decode cX11_lay 183 = .ok (.istore 5, 2) := by decide +kernel
theorem dX11_lay_185 : decode cX11_lay 185 = .ok (.iload 5, 2) := by decide +kernel
theorem dX11_lay_187 : decode cX11_lay 187 = .ok (.iload_n 2, 1) := by decide +kernel
theorem dX11_lay_188 : decode cX11_lay 188 = .ok (.if_icmp .ge 39, 3) := by decide +kernel
theorem dX11_lay_191 : decode cX11_lay 191 = .ok (.aload_n 0, 1) := by decide +kernel
theorem dX11_lay_192 : decode cX11_lay 192 = .ok (.getfield 16, 3) := by decide +kernel
theorem dX11_lay_195 : decode cX11_lay 195 = .ok (.bipush 36, 2) := by decide +kernel
theorem dX11_lay_197 : decode cX11_lay 197 = .ok (.iload_n 1, 1) := by decide +kernel
theorem dX11_lay_198 : decode cX11_lay 198 = .ok (.imul, 1) := by decide +kernel
theorem dX11_lay_199 : decode cX11_lay 199 = .ok (.iload 5, 2) := by decide +kernel
theorem dX11_lay_201 : decode cX11_lay 201 = .ok (.iadd, 1) := by decide +kernel
theorem dX11_lay_202 : decode cX11_lay 202 = .ok (.iaload, 1) := by decide +kernel
theorem dX11_lay_203 : decode cX11_lay 203 = .ok (.istore 6, 2) := by decide +kernel
theorem dX11_lay_205 : decode cX11_lay 205 = .ok (.iload 6, 2) := by decide +kernel
theorem dX11_lay_207 : decode cX11_lay 207 = .ok (.sipush (-32768), 3) := by decide +kernel
theorem dX11_lay_210 : decode cX11_lay 210 = .ok (.if_icmp .eq 11, 3) := by decide +kernel
theorem dX11_lay_213 : decode cX11_lay 213 = .ok (.aload_n 0, 1) := by decide +kernel
theorem dX11_lay_214 : decode cX11_lay 214 = .ok (.iload 5, 2) := by decide +kernel
theorem dX11_lay_216 : decode cX11_lay 216 = .ok (.iload 6, 2) := by decide +kernel
theorem dX11_lay_218 : decode cX11_lay 218 = .ok (.invokevirtual 87, 3) := by decide +kernel
theorem dX11_lay_221 : decode cX11_lay 221 = .ok (.iinc 5 1, 3) := by decide +kernel
theorem dX11_lay_224 : decode cX11_lay 224 = .ok (.goto (-39), 3) := by decide +kernel
theorem dX11_lay_227 : decode cX11_lay 227 = .ok (.aload_n 0, 1) := by decide +kernel
theorem dX11_lay_228 : decode cX11_lay 228 = .ok (.iconst 1, 1) := by decide +kernel
theorem dX11_lay_229 : decode cX11_lay 229 = .ok (.putfield 70, 3) := by decide +kernel
theorem dX11_lay_232 : decode cX11_lay 232 = .ok (.aload_n 0, 1) := by decide +kernel
theorem dX11_lay_233 : decode cX11_lay 233 = .ok (.getfield 9, 3) := by decide +kernel
theorem dX11_lay_236 : decode cX11_lay 236 = .ok (.iconst 1, 1) := by decide +kernel
theorem dX11_lay_237 : decode cX11_lay 237 = .ok (.iaload, 1) := by decide +kernel
theorem dX11_lay_238 : decode cX11_lay 238 = .ok (.i2l, 1) := by decide +kernel
theorem dX11_lay_239 : decode cX11_lay 239 = .ok (.lreturn, 1) := by decide +kernel
theorem dX11_takeModel_0 : decode cX11_takeModel 0 = .ok (.aload_n 0, 1) := by decide +kernel
theorem dX11_takeModel_1 : decode cX11_takeModel 1 = .ok (.iconst 0, 1) := by decide +kernel
theorem dX11_takeModel_2 : decode cX11_takeModel 2 = .ok (.putfield 101, 3) := by decide +kernel
theorem dX11_takeModel_5 : decode cX11_takeModel 5 = .ok (.iconst 0, 1) := by decide +kernel
theorem dX11_takeModel_6 : decode cX11_takeModel 6 = .ok (.istore_n 2, 1) := by decide +kernel
theorem dX11_takeModel_7 : decode cX11_takeModel 7 = .ok (.iload_n 2, 1) := by decide +kernel
theorem dX11_takeModel_8 : decode cX11_takeModel 8 = .ok (.bipush 8, 2) := by decide +kernel
theorem dX11_takeModel_10 : decode cX11_takeModel 10 = .ok (.if_icmp .ge 38, 3) := by decide +kernel
theorem dX11_takeModel_13 : decode cX11_takeModel 13 = .ok (.iload_n 1, 1) := by decide +kernel
theorem dX11_takeModel_14 : decode cX11_takeModel 14 = .ok (.iload_n 2, 1) := by decide +kernel
theorem dX11_takeModel_15 : decode cX11_takeModel 15 = .ok (.ishr, 1) := by decide +kernel
theorem dX11_takeModel_16 : decode cX11_takeModel 16 = .ok (.iconst 1, 1) := by decide +kernel
theorem dX11_takeModel_17 : decode cX11_takeModel 17 = .ok (.iand, 1) := by decide +kernel
theorem dX11_takeModel_18 : decode cX11_takeModel 18 = .ok (.iconst 1, 1) := by decide +kernel
theorem dX11_takeModel_19 : decode cX11_takeModel 19 = .ok (.if_icmp .ne 23, 3) := by decide +kernel
theorem dX11_takeModel_22 : decode cX11_takeModel 22 = .ok (.aload_n 0, 1) := by decide +kernel
theorem dX11_takeModel_23 : decode cX11_takeModel 23 = .ok (.getfield 41, 3) := by decide +kernel
theorem dX11_takeModel_26 : decode cX11_takeModel 26 = .ok (.aload_n 0, 1) := by decide +kernel
theorem dX11_takeModel_27 : decode cX11_takeModel 27 = .ok (.getfield 101, 3) := by decide +kernel
theorem dX11_takeModel_30 : decode cX11_takeModel 30 = .ok (.iload_n 2, 1) := by decide +kernel
theorem dX11_takeModel_31 : decode cX11_takeModel 31 = .ok (.iastore, 1) := by decide +kernel
theorem dX11_takeModel_32 : decode cX11_takeModel 32 = .ok (.aload_n 0, 1) := by decide +kernel
theorem dX11_takeModel_33 : decode cX11_takeModel 33 = .ok (.dup, 1) := by decide +kernel
theorem dX11_takeModel_34 : decode cX11_takeModel 34 = .ok (.getfield 101, 3) := by decide +kernel
theorem dX11_takeModel_37 : decode cX11_takeModel 37 = .ok (.iconst 1, 1) := by decide +kernel
theorem dX11_takeModel_38 : decode cX11_takeModel 38 = .ok (.iadd, 1) := by decide +kernel
theorem dX11_takeModel_39 : decode cX11_takeModel 39 = .ok (.putfield 101, 3) := by decide +kernel
theorem dX11_takeModel_42 : decode cX11_takeModel 42 = .ok (.iinc 2 1, 3) := by decide +kernel
theorem dX11_takeModel_45 : decode cX11_takeModel 45 = .ok (.goto (-38), 3) := by decide +kernel
theorem dX11_takeModel_48 : decode cX11_takeModel 48 = .ok (.return_, 1) := by decide +kernel
theorem dX11_entry_0 : decode cX11_entry 0 = .ok (.iload_n 2, 1) := by decide +kernel
theorem dX11_entry_1 : decode cX11_entry 1 = .ok (.iload_n 3, 1) := by decide +kernel
theorem dX11_entry_2 : decode cX11_entry 2 = .ok (.if_icmp .ne 12, 3) := by decide +kernel
theorem dX11_entry_5 : decode cX11_entry 5 = .ok (.aload_n 0, 1) := by decide +kernel
theorem dX11_entry_6 : decode cX11_entry 6 = .ok (.getfield 47, 3) := by decide +kernel
theorem dX11_entry_9 : decode cX11_entry 9 = .ok (.iload_n 1, 1) := by decide +kernel
theorem dX11_entry_10 : decode cX11_entry 10 = .ok (.laload, 1) := by decide +kernel
theorem dX11_entry_11 : decode cX11_entry 11 = .ok (.goto 13, 3) := by decide +kernel
theorem dX11_entry_14 : decode cX11_entry 14 = .ok (.aload_n 0, 1) := by decide +kernel
theorem dX11_entry_15 : decode cX11_entry 15 = .ok (.getfield 44, 3) := by decide +kernel
theorem dX11_entry_18 : decode cX11_entry 18 = .ok (.iconst 4, 1) := by decide +kernel
theorem dX11_entry_19 : decode cX11_entry 19 = .ok (.iload_n 1, 1) := by decide +kernel
theorem dX11_entry_20 : decode cX11_entry 20 = .ok (.imul, 1) := by decide +kernel
theorem dX11_entry_21 : decode cX11_entry 21 = .ok (.iload_n 2, 1) := by decide +kernel
theorem dX11_entry_22 : decode cX11_entry 22 = .ok (.iadd, 1) := by decide +kernel
theorem dX11_entry_23 : decode cX11_entry 23 = .ok (.laload, 1) := by decide +kernel
theorem dX11_entry_24 : decode cX11_entry 24 = .ok (.lreturn, 1) := by decide +kernel
theorem dX11_two_0 : decode cX11_two 0 = .ok (.aload_n 0, 1) := by decide +kernel
theorem dX11_two_1 : decode cX11_two 1 = .ok (.iload_n 1, 1) := by decide +kernel
theorem dX11_two_2 : decode cX11_two 2 = .ok (.iload_n 3, 1) := by decide +kernel
theorem dX11_two_3 : decode cX11_two 3 = .ok (.iload 5, 2) := by decide +kernel
theorem dX11_two_5 : decode cX11_two 5 = .ok (.invokevirtual 105, 3) := by decide +kernel
theorem dX11_two_8 : decode cX11_two 8 = .ok (.aload_n 0, 1) := by decide +kernel
theorem dX11_two_9 : decode cX11_two 9 = .ok (.iload_n 2, 1) := by decide +kernel
theorem dX11_two_10 : decode cX11_two 10 = .ok (.iload 4, 2) := by decide +kernel
theorem dX11_two_12 : decode cX11_two 12 = .ok (.iload 5, 2) := by decide +kernel
theorem dX11_two_14 : decode cX11_two 14 = .ok (.invokevirtual 105, 3) := by decide +kernel
theorem dX11_two_17 : decode cX11_two 17 = .ok (.lmul, 1) := by decide +kernel
theorem dX11_two_18 : decode cX11_two 18 = .ok (.aload_n 0, 1) := by decide +kernel
theorem dX11_two_19 : decode cX11_two 19 = .ok (.iload_n 1, 1) := by decide +kernel
theorem dX11_two_20 : decode cX11_two 20 = .ok (.iload 4, 2) := by decide +kernel
theorem dX11_two_22 : decode cX11_two 22 = .ok (.iload 5, 2) := by decide +kernel
theorem dX11_two_24 : decode cX11_two 24 = .ok (.invokevirtual 105, 3) := by decide +kernel
theorem dX11_two_27 : decode cX11_two 27 = .ok (.aload_n 0, 1) := by decide +kernel
theorem dX11_two_28 : decode cX11_two 28 = .ok (.iload_n 2, 1) := by decide +kernel
theorem dX11_two_29 : decode cX11_two 29 = .ok (.iload_n 3, 1) := by decide +kernel
theorem dX11_two_30 : decode cX11_two 30 = .ok (.iload 5, 2) := by decide +kernel
theorem dX11_two_32 : decode cX11_two 32 = .ok (.invokevirtual 105, 3) := by decide +kernel
theorem dX11_two_35 : decode cX11_two 35 = .ok (.lmul, 1) := by decide +kernel
theorem dX11_two_36 : decode cX11_two 36 = .ok (.lsub, 1) := by decide +kernel
theorem dX11_two_37 : decode cX11_two 37 = .ok (.lreturn, 1) := by decide +kernel
theorem dX11_three_0 : decode cX11_three 0 = .ok (.aload_n 0, 1) := by decide +kernel
theorem dX11_three_1 : decode cX11_three 1 = .ok (.iload_n 1, 1) := by decide +kernel
theorem dX11_three_2 : decode cX11_three 2 = .ok (.iload 4, 2) := by decide +kernel
theorem dX11_three_4 : decode cX11_three 4 = .ok (.iload 7, 2) := by decide +kernel
theorem dX11_three_6 : decode cX11_three 6 = .ok (.invokevirtual 105, 3) := by decide +kernel
theorem dX11_three_9 : decode cX11_three 9 = .ok (.aload_n 0, 1) := by decide +kernel
theorem dX11_three_10 : decode cX11_three 10 = .ok (.iload_n 2, 1) := by decide +kernel
theorem dX11_three_11 : decode cX11_three 11 = .ok (.iload_n 3, 1) := by decide +kernel
theorem dX11_three_12 : decode cX11_three 12 = .ok (.iload 5, 2) := by decide +kernel
theorem dX11_three_14 : decode cX11_three 14 = .ok (.iload 6, 2) := by decide +kernel
theorem dX11_three_16 : decode cX11_three 16 = .ok (.iload 7, 2) := by decide +kernel
theorem dX11_three_18 : decode cX11_three 18 = .ok (.invokevirtual 109, 3) := by decide +kernel
theorem dX11_three_21 : decode cX11_three 21 = .ok (.lmul, 1) := by decide +kernel
theorem dX11_three_22 : decode cX11_three 22 = .ok (.aload_n 0, 1) := by decide +kernel
theorem dX11_three_23 : decode cX11_three 23 = .ok (.iload_n 1, 1) := by decide +kernel
theorem dX11_three_24 : decode cX11_three 24 = .ok (.iload 5, 2) := by decide +kernel
theorem dX11_three_26 : decode cX11_three 26 = .ok (.iload 7, 2) := by decide +kernel
theorem dX11_three_28 : decode cX11_three 28 = .ok (.invokevirtual 105, 3) := by decide +kernel
theorem dX11_three_31 : decode cX11_three 31 = .ok (.aload_n 0, 1) := by decide +kernel
theorem dX11_three_32 : decode cX11_three 32 = .ok (.iload_n 2, 1) := by decide +kernel
theorem dX11_three_33 : decode cX11_three 33 = .ok (.iload_n 3, 1) := by decide +kernel
theorem dX11_three_34 : decode cX11_three 34 = .ok (.iload 4, 2) := by decide +kernel
theorem dX11_three_36 : decode cX11_three 36 = .ok (.iload 6, 2) := by decide +kernel
theorem dX11_three_38 : decode cX11_three 38 = .ok (.iload 7, 2) := by decide +kernel
theorem dX11_three_40 : decode cX11_three 40 = .ok (.invokevirtual 109, 3) := by decide +kernel
theorem dX11_three_43 : decode cX11_three 43 = .ok (.lmul, 1) := by decide +kernel
theorem dX11_three_44 : decode cX11_three 44 = .ok (.lsub, 1) := by decide +kernel
theorem dX11_three_45 : decode cX11_three 45 = .ok (.aload_n 0, 1) := by decide +kernel
theorem dX11_three_46 : decode cX11_three 46 = .ok (.iload_n 1, 1) := by decide +kernel
theorem dX11_three_47 : decode cX11_three 47 = .ok (.iload 6, 2) := by decide +kernel
theorem dX11_three_49 : decode cX11_three 49 = .ok (.iload 7, 2) := by decide +kernel
theorem dX11_three_51 : decode cX11_three 51 = .ok (.invokevirtual 105, 3) := by decide +kernel
theorem dX11_three_54 : decode cX11_three 54 = .ok (.aload_n 0, 1) := by decide +kernel
theorem dX11_three_55 : decode cX11_three 55 = .ok (.iload_n 2, 1) := by decide +kernel
theorem dX11_three_56 : decode cX11_three 56 = .ok (.iload_n 3, 1) := by decide +kernel
theorem dX11_three_57 : decode cX11_three 57 = .ok (.iload 4, 2) := by decide +kernel
theorem dX11_three_59 : decode cX11_three 59 = .ok (.iload 5, 2) := by decide +kernel
theorem dX11_three_61 : decode cX11_three 61 = .ok (.iload 7, 2) := by decide +kernel
theorem dX11_three_63 : decode cX11_three 63 = .ok (.invokevirtual 109, 3) := by decide +kernel
theorem dX11_three_66 : decode cX11_three 66 = .ok (.lmul, 1) := by decide +kernel
theorem dX11_three_67 : decode cX11_three 67 = .ok (.ladd, 1) := by decide +kernel
theorem dX11_three_68 : decode cX11_three 68 = .ok (.lreturn, 1) := by decide +kernel
theorem dX11_whole_0 : decode cX11_whole 0 = .ok (.aload_n 0, 1) := by decide +kernel
theorem dX11_whole_1 : decode cX11_whole 1 = .ok (.getfield 101, 3) := by decide +kernel
theorem dX11_whole_4 : decode cX11_whole 4 = .ok (.tableswitch 58 1 3 #[28, 36, 46], 28) := by decide +kernel
theorem dX11_whole_32 : decode cX11_whole 32 = .ok (.aload_n 0, 1) := by decide +kernel
theorem dX11_whole_33 : decode cX11_whole 33 = .ok (.iconst 0, 1) := by decide +kernel
theorem dX11_whole_34 : decode cX11_whole 34 = .ok (.iconst 0, 1) := by decide +kernel
theorem dX11_whole_35 : decode cX11_whole 35 = .ok (.iload_n 1, 1) := by decide +kernel
theorem dX11_whole_36 : decode cX11_whole 36 = .ok (.invokevirtual 105, 3) := by decide +kernel
theorem dX11_whole_39 : decode cX11_whole 39 = .ok (.lreturn, 1) := by decide +kernel
theorem dX11_whole_40 : decode cX11_whole 40 = .ok (.aload_n 0, 1) := by decide +kernel
theorem dX11_whole_41 : decode cX11_whole 41 = .ok (.iconst 0, 1) := by decide +kernel
theorem dX11_whole_42 : decode cX11_whole 42 = .ok (.iconst 1, 1) := by decide +kernel
theorem dX11_whole_43 : decode cX11_whole 43 = .ok (.iconst 0, 1) := by decide +kernel
theorem dX11_whole_44 : decode cX11_whole 44 = .ok (.iconst 1, 1) := by decide +kernel
theorem dX11_whole_45 : decode cX11_whole 45 = .ok (.iload_n 1, 1) := by decide +kernel
theorem dX11_whole_46 : decode cX11_whole 46 = .ok (.invokevirtual 109, 3) := by decide +kernel
theorem dX11_whole_49 : decode cX11_whole 49 = .ok (.lreturn, 1) := by decide +kernel
theorem dX11_whole_50 : decode cX11_whole 50 = .ok (.aload_n 0, 1) := by decide +kernel
theorem dX11_whole_51 : decode cX11_whole 51 = .ok (.iconst 0, 1) := by decide +kernel
theorem dX11_whole_52 : decode cX11_whole 52 = .ok (.iconst 1, 1) := by decide +kernel
theorem dX11_whole_53 : decode cX11_whole 53 = .ok (.iconst 2, 1) := by decide +kernel
theorem dX11_whole_54 : decode cX11_whole 54 = .ok (.iconst 0, 1) := by decide +kernel
theorem dX11_whole_55 : decode cX11_whole 55 = .ok (.iconst 1, 1) := by decide +kernel
theorem dX11_whole_56 : decode cX11_whole 56 = .ok (.iconst 2, 1) := by decide +kernel
theorem dX11_whole_57 : decode cX11_whole 57 = .ok (.iload_n 1, 1) := by decide +kernel
theorem dX11_whole_58 : decode cX11_whole 58 = .ok (.invokevirtual 113, 3) := by decide +kernel
theorem dX11_whole_61 : decode cX11_whole 61 = .ok (.lreturn, 1) := by decide +kernel
theorem dX11_whole_62 : decode cX11_whole 62 = .ok (.aload_n 0, 1) := by decide +kernel
