theorem dX9_init_0 : decode cX9_init 0 = .ok (.aload_n 0, 1) := by decide +kernel
theorem dX9_init_1 : decode cX9_init 1 = .ok (.invokespecial 3, 3) := by decide +kernel
theorem dX9_init_4 : decode cX9_init 4 = .ok (.aload_n 0, 1) := by decide +kernel
theorem dX9_init_5 : decode cX9_init 5 = .ok (.bipush 8, 2) := by decide +kernel
theorem dX9_init_7 : decode cX9_init 7 = .ok (.putfield 9, 3) := by decide +kernel
theorem dX9_init_10 : decode cX9_init 10 = .ok (.aload_n 0, 1) := by decide +kernel
theorem dX9_init_11 : decode cX9_init 11 = .ok (.bipush 8, 2) := by decide +kernel
theorem dX9_init_13 : decode cX9_init 13 = .ok (.putfield 15, 3) := by decide +kernel
theorem dX9_init_16 : decode cX9_init 16 = .ok (.aload_n 0, 1) := by decide +kernel
theorem dX9_init_17 : decode cX9_init 17 = .ok (.bipush 16, 2) := by decide +kernel
theorem dX9_init_19 : decode cX9_init 19 = .ok (.newarray .int, 2) := by decide +kernel
theorem dX9_init_21 : decode cX9_init 21 = .ok (.putfield 18, 3) := by decide +kernel
theorem dX9_init_24 : decode cX9_init 24 = .ok (.aload_n 0, 1) := by decide +kernel
theorem dX9_init_25 : decode cX9_init 25 = .ok (.bipush 16, 2) := by decide +kernel
theorem dX9_init_27 : decode cX9_init 27 = .ok (.newarray .int, 2) := by decide +kernel
theorem dX9_init_29 : decode cX9_init 29 = .ok (.putfield 22, 3) := by decide +kernel
theorem dX9_init_32 : decode cX9_init 32 = .ok (.aload_n 0, 1) := by decide +kernel
theorem dX9_init_33 : decode cX9_init 33 = .ok (.bipush 16, 2) := by decide +kernel
theorem dX9_init_35 : decode cX9_init 35 = .ok (.newarray .int, 2) := by decide +kernel
theorem dX9_init_37 : decode cX9_init 37 = .ok (.putfield 25, 3) := by decide +kernel
theorem dX9_init_40 : decode cX9_init 40 = .ok (.aload_n 0, 1) := by decide +kernel
theorem dX9_init_41 : decode cX9_init 41 = .ok (.iconst 5, 1) := by decide +kernel
theorem dX9_init_42 : decode cX9_init 42 = .ok (.newarray .int, 2) := by decide +kernel
theorem dX9_init_44 : decode cX9_init 44 = .ok (.putfield 28, 3) := by decide +kernel
theorem dX9_init_47 : decode cX9_init 47 = .ok (.aload_n 0, 1) := by decide +kernel
theorem dX9_init_48 : decode cX9_init 48 = .ok (.iconst 5, 1) := by decide +kernel
theorem dX9_init_49 : decode cX9_init 49 = .ok (.newarray .int, 2) := by decide +kernel
theorem dX9_init_51 : decode cX9_init 51 = .ok (.putfield 31, 3) := by decide +kernel
theorem dX9_init_54 : decode cX9_init 54 = .ok (.aload_n 0, 1) := by decide +kernel
theorem dX9_init_55 : decode cX9_init 55 = .ok (.iconst 5, 1) := by decide +kernel
theorem dX9_init_56 : decode cX9_init 56 = .ok (.newarray .int, 2) := by decide +kernel
theorem dX9_init_58 : decode cX9_init 58 = .ok (.putfield 34, 3) := by decide +kernel
theorem dX9_init_61 : decode cX9_init 61 = .ok (.aload_n 0, 1) := by decide +kernel
theorem dX9_init_62 : decode cX9_init 62 = .ok (.bipush 8, 2) := by decide +kernel
theorem dX9_init_64 : decode cX9_init 64 = .ok (.newarray .int, 2) := by decide +kernel
theorem dX9_init_66 : decode cX9_init 66 = .ok (.putfield 37, 3) := by decide +kernel
theorem dX9_init_69 : decode cX9_init 69 = .ok (.aload_n 0, 1) := by decide +kernel
theorem dX9_init_70 : decode cX9_init 70 = .ok (.bipush 8, 2) := by decide +kernel
theorem dX9_init_72 : decode cX9_init 72 = .ok (.newarray .int, 2) := by decide +kernel
theorem dX9_init_74 : decode cX9_init 74 = .ok (.putfield 40, 3) := by decide +kernel
theorem dX9_init_77 : decode cX9_init 77 = .ok (.aload_n 0, 1) := by decide +kernel
theorem dX9_init_78 : decode cX9_init 78 = .ok (.bipush 16, 2) := by decide +kernel
theorem dX9_init_80 : decode cX9_init 80 = .ok (.newarray .int, 2) := by decide +kernel
theorem dX9_init_82 : decode cX9_init 82 = .ok (.putfield 43, 3) := by decide +kernel
theorem dX9_init_85 : decode cX9_init 85 = .ok (.aload_n 0, 1) := by decide +kernel
theorem dX9_init_86 : decode cX9_init 86 = .ok (.bipush 16, 2) := by decide +kernel
theorem dX9_init_88 : decode cX9_init 88 = .ok (.newarray .int, 2) := by decide +kernel
theorem dX9_init_90 : decode cX9_init 90 = .ok (.putfield 46, 3) := by decide +kernel
theorem dX9_init_93 : decode cX9_init 93 = .ok (.aload_n 0, 1) := by decide +kernel
theorem dX9_init_94 : decode cX9_init 94 = .ok (.bipush 16, 2) := by decide +kernel
theorem dX9_init_96 : decode cX9_init 96 = .ok (.newarray .int, 2) := by decide +kernel
theorem dX9_init_98 : decode cX9_init 98 = .ok (.putfield 49, 3) := by decide +kernel
theorem dX9_init_101 : decode cX9_init 101 = .ok (.aload_n 0, 1) := by decide +kernel
theorem dX9_init_102 : decode cX9_init 102 = .ok (.bipush 12, 2) := by decide +kernel
theorem dX9_init_104 : decode cX9_init 104 = .ok (.newarray .int, 2) := by decide +kernel
theorem dX9_init_106 : decode cX9_init 106 = .ok (.putfield 52, 3) := by decide +kernel
theorem dX9_init_109 : decode cX9_init 109 = .ok (.aload_n 0, 1) := by decide +kernel
theorem dX9_init_110 : decode cX9_init 110 = .ok (.bipush 12, 2) := by decide +kernel
theorem dX9_init_112 : decode cX9_init 112 = .ok (.newarray .int, 2) := by decide +kernel
theorem dX9_init_114 : decode cX9_init 114 = .ok (.putfield 55, 3) := by decide +kernel
theorem dX9_init_117 : decode cX9_init 117 = .ok (.aload_n 0, 1) := by decide +kernel
theorem dX9_init_118 : decode cX9_init 118 = .ok (.sipush 1040, 3) := by decide +kernel
theorem dX9_init_121 : decode cX9_init 121 = .ok (.newarray .int, 2) := by decide +kernel
theorem dX9_init_123 : decode cX9_init 123 = .ok (.putfield 58, 3) := by decide +kernel
theorem dX9_init_126 : decode cX9_init 126 = .ok (.aload_n 0, 1) := by decide +kernel
theorem dX9_init_127 : decode cX9_init 127 = .ok (.sipush 256, 3) := by decide +kernel
theorem dX9_init_130 : decode cX9_init 130 = .ok (.newarray .int, 2) := by decide +kernel
theorem dX9_init_132 : decode cX9_init 132 = .ok (.putfield 61, 3) := by decide +kernel
theorem dX9_init_135 : decode cX9_init 135 = .ok (.aload_n 0, 1) := by decide +kernel
theorem dX9_init_136 : decode cX9_init 136 = .ok (.sipush 256, 3) := by decide +kernel
theorem dX9_init_139 : decode cX9_init 139 = .ok (.newarray .int, 2) := by decide +kernel
theorem dX9_init_141 : decode cX9_init 141 = .ok (.putfield 64, 3) := by decide +kernel
theorem dX9_init_144 : decode cX9_init 144 = .ok (.aload_n 0, 1) := by decide +kernel
theorem dX9_init_145 : decode cX9_init 145 = .ok (.sipush 256, 3) := by decide +kernel
theorem dX9_init_148 : decode cX9_init 148 = .ok (.newarray .int, 2) := by decide +kernel
theorem dX9_init_150 : decode cX9_init 150 = .ok (.putfield 67, 3) := by decide +kernel
theorem dX9_init_153 : decode cX9_init 153 = .ok (.aload_n 0, 1) := by decide +kernel
theorem dX9_init_154 : decode cX9_init 154 = .ok (.sipush 256, 3) := by decide +kernel
theorem dX9_init_157 : decode cX9_init 157 = .ok (.newarray .int, 2) := by decide +kernel
theorem dX9_init_159 : decode cX9_init 159 = .ok (.putfield 70, 3) := by decide +kernel
theorem dX9_init_162 : decode cX9_init 162 = .ok (.aload_n 0, 1) := by decide +kernel
theorem dX9_init_163 : decode cX9_init 163 = .ok (.sipush 256, 3) := by decide +kernel
theorem dX9_init_166 : decode cX9_init 166 = .ok (.newarray .int, 2) := by decide +kernel
theorem dX9_init_168 : decode cX9_init 168 = .ok (.putfield 73, 3) := by decide +kernel
theorem dX9_init_171 : decode cX9_init 171 = .ok (.aload_n 0, 1) := by decide +kernel
theorem dX9_init_172 : decode cX9_init 172 = .ok (.sipush 256, 3) := by decide +kernel
theorem dX9_init_175 : decode cX9_init 175 = .ok (.newarray .int, 2) := by decide +kernel
theorem dX9_init_177 : decode cX9_init 177 = .ok (.putfield 76, 3) := by decide +kernel
theorem dX9_init_180 : decode cX9_init 180 = .ok (.aload_n 0, 1) := by decide +kernel
theorem dX9_init_181 : decode cX9_init 181 = .ok (.sipush 256, 3) := by decide +kernel
theorem dX9_init_184 : decode cX9_init 184 = .ok (.newarray .int, 2) := by decide +kernel
theorem dX9_init_186 : decode cX9_init 186 = .ok (.putfield 79, 3) := by decide +kernel
theorem dX9_init_189 : decode cX9_init 189 = .ok (.aload_n 0, 1) := by decide +kernel
theorem dX9_init_190 : decode cX9_init 190 = .ok (.sipush 300, 3) := by decide +kernel
theorem dX9_init_193 : decode cX9_init 193 = .ok (.newarray .int, 2) := by decide +kernel
theorem dX9_init_195 : decode cX9_init 195 = .ok (.putfield 82, 3) := by decide +kernel
theorem dX9_init_198 : decode cX9_init 198 = .ok (.aload_n 0, 1) := by decide +kernel
theorem dX9_init_199 : decode cX9_init 199 = .ok (.bipush 16, 2) := by decide +kernel
theorem dX9_init_201 : decode cX9_init 201 = .ok (.newarray .int, 2) := by decide +kernel
theorem dX9_init_203 : decode cX9_init 203 = .ok (.putfield 85, 3) := by decide +kernel
theorem dX9_init_206 : decode cX9_init 206 = .ok (.aload_n 0, 1) := by decide +kernel
theorem dX9_init_207 : decode cX9_init 207 = .ok (.sipush 300, 3) := by decide +kernel
theorem dX9_init_210 : decode cX9_init 210 = .ok (.newarray .int, 2) := by decide +kernel
theorem dX9_init_212 : decode cX9_init 212 = .ok (.putfield 88, 3) := by decide +kernel
theorem dX9_init_215 : decode cX9_init 215 = .ok (.aload_n 0, 1) := by decide +kernel
theorem dX9_init_216 : decode cX9_init 216 = .ok (.iconst 4, 1) := by decide +kernel
theorem dX9_init_217 : decode cX9_init 217 = .ok (.newarray .int, 2) := by decide +kernel
theorem dX9_init_219 : decode cX9_init 219 = .ok (.putfield 91, 3) := by decide +kernel
theorem dX9_init_222 : decode cX9_init 222 = .ok (.aload_n 0, 1) := by decide +kernel
theorem dX9_init_223 : decode cX9_init 223 = .ok (.bipush 80, 2) := by decide +kernel
theorem dX9_init_225 : decode cX9_init 225 = .ok (.newarray .long, 2) := by decide +kernel
theorem dX9_init_227 : decode cX9_init 227 = .ok (.putfield 94, 3) := by decide +kernel
theorem dX9_init_230 : decode cX9_init 230 = .ok (.aload_n 0, 1) := by decide +kernel
theorem dX9_init_231 : decode cX9_init 231 = .ok (.bipush 66, 2) := by decide +kernel
theorem dX9_init_233 : decode cX9_init 233 = .ok (.newarray .int, 2) := by decide +kernel
theorem dX9_init_235 : decode cX9_init 235 = .ok (.putfield 98, 3) := by decide +kernel
theorem dX9_init_238 : decode cX9_init 238 = .ok (.iconst 4, 1) := by decide +kernel
theorem dX9_init_239 : decode cX9_init 239 = .ok (.aload_n 0, 1) := by decide +kernel
theorem dX9_init_240 : decode cX9_init 240 = .ok (.getfield 22, 3) := by decide +kernel
theorem dX9_init_243 : decode cX9_init 243 = .ok (.invokestatic 101, 3) := by decide +kernel
theorem dX9_init_246 : decode cX9_init 246 = .ok (.iconst 0, 1) := by decide +kernel
theorem dX9_init_247 : decode cX9_init 247 = .ok (.istore_n 1, 1) := by decide +kernel
theorem dX9_init_248 : decode cX9_init 248 = .ok (.iload_n 1, 1) := by decide +kernel
theorem dX9_init_249 : decode cX9_init 249 = .ok (.iconst 4, 1) := by decide +kernel
theorem dX9_init_250 : decode cX9_init 250 = .ok (.if_icmp .ge 16, 3) := by decide +kernel
theorem dX9_init_253 : decode cX9_init 253 = .ok (.aload_n 0, 1) := by decide +kernel
theorem dX9_init_254 : decode cX9_init 254 = .ok (.getfield 91, 3) := by decide +kernel
theorem dX9_init_257 : decode cX9_init 257 = .ok (.iload_n 1, 1) := by decide +kernel
theorem dX9_init_258 : decode cX9_init 258 = .ok (.iconst (-1), 1) := by decide +kernel
theorem dX9_init_259 : decode cX9_init 259 = .ok (.iastore, 1) := by decide +kernel
theorem dX9_init_260 : decode cX9_init 260 = .ok (.iinc 1 1, 3) := by decide +kernel
theorem dX9_init_263 : decode cX9_init 263 = .ok (.goto (-15), 3) := by decide +kernel
theorem dX9_init_266 : decode cX9_init 266 = .ok (.return_, 1) := by decide +kernel
theorem dX9_isIn_0 : decode cX9_isIn 0 = .ok (.lload_n 0, 1) := by decide +kernel
theorem dX9_isIn_1 : decode cX9_isIn 1 = .ok (.lload_n 2, 1) := by decide +kernel
theorem dX9_isIn_2 : decode cX9_isIn 2 = .ok (.lcmp, 1) := by decide +kernel
theorem dX9_isIn_3 : decode cX9_isIn 3 = .ok (.ifCond .lt 14, 3) := by decide +kernel
theorem dX9_isIn_6 : decode cX9_isIn 6 = .ok (.lload_n 0, 1) := by decide +kernel
theorem dX9_isIn_7 : decode cX9_isIn 7 = .ok (.lload 4, 2) := by decide +kernel
theorem dX9_isIn_9 : decode cX9_isIn 9 = .ok (.lcmp, 1) := by decide +kernel
theorem dX9_isIn_10 : decode cX9_isIn 10 = .ok (.ifCond .gt 7, 3) := by decide +kernel
theorem dX9_isIn_13 : decode cX9_isIn 13 = .ok (.iconst 1, 1) := by decide +kernel
theorem dX9_isIn_14 : decode cX9_isIn 14 = .ok (.goto 4, 3) := by decide +kernel
theorem dX9_isIn_17 : decode cX9_isIn 17 = .ok (.iconst 0, 1) := by decide +kernel
theorem dX9_isIn_18 : decode cX9_isIn 18 = .ok (.ireturn, 1) := by decide +kernel
theorem dX9_isCell_0 : decode cX9_isCell 0 = .ok (.iload_n 1, 1) := by decide +kernel
theorem dX9_isCell_1 : decode cX9_isCell 1 = .ok (.i2l, 1) := by decide +kernel
theorem dX9_isCell_2 : decode cX9_isCell 2 = .ok (.lconst 0, 1) := by decide +kernel
theorem dX9_isCell_3 : decode cX9_isCell 3 = .ok (.aload_n 0, 1) := by decide +kernel
theorem dX9_isCell_4 : decode cX9_isCell 4 = .ok (.getfield 9, 3) := by decide +kernel
theorem dX9_isCell_7 : decode cX9_isCell 7 = .ok (.iconst 1, 1) := by decide +kernel
theorem dX9_isCell_8 : decode cX9_isCell 8 = .ok (.isub, 1) := by decide +kernel
theorem dX9_isCell_9 : decode cX9_isCell 9 = .ok (.i2l, 1) := by decide +kernel
theorem dX9_isCell_10 : decode cX9_isCell 10 = .ok (.invokestatic 105, 3) := by decide +kernel
theorem dX9_isCell_13 : decode cX9_isCell 13 = .ok (.ifCond .eq 23, 3) := by decide +kernel
theorem dX9_isCell_16 : decode cX9_isCell 16 = .ok (.iload_n 2, 1) := by decide +kernel
theorem dX9_isCell_17 : decode cX9_isCell 17 = .ok (.i2l, 1) := by decide +kernel
theorem dX9_isCell_18 : decode cX9_isCell 18 = .ok (.lconst 0, 1) := by decide +kernel
theorem dX9_isCell_19 : decode cX9_isCell 19 = .ok (.aload_n 0, 1) := by decide +kernel
theorem dX9_isCell_20 : decode cX9_isCell 20 = .ok (.getfield 15, 3) := by decide +kernel
theorem dX9_isCell_23 : decode cX9_isCell 23 = .ok (.iconst 1, 1) := by decide +kernel
theorem dX9_isCell_24 : decode cX9_isCell 24 = .ok (.isub, 1) := by decide +kernel
theorem dX9_isCell_25 : decode cX9_isCell 25 = .ok (.i2l, 1) := by decide +kernel
theorem dX9_isCell_26 : decode cX9_isCell 26 = .ok (.invokestatic 105, 3) := by decide +kernel
theorem dX9_isCell_29 : decode cX9_isCell 29 = .ok (.ifCond .eq 7, 3) := by decide +kernel
theorem dX9_isCell_32 : decode cX9_isCell 32 = .ok (.iconst 1, 1) := by decide +kernel
theorem dX9_isCell_33 : decode cX9_isCell 33 = .ok (.goto 4, 3) := by decide +kernel
theorem dX9_isCell_36 : decode cX9_isCell 36 = .ok (.iconst 0, 1) := by decide +kernel
theorem dX9_isCell_37 : decode cX9_isCell 37 = .ok (.ireturn, 1) := by decide +kernel
theorem dX9_copies_0 : decode cX9_copies 0 = .ok (.iconst 0, 1) := by decide +kernel
theorem dX9_copies_1 : decode cX9_copies 1 = .ok (.istore_n 2, 1) := by decide +kernel
theorem dX9_copies_2 : decode cX9_copies 2 = .ok (.iload_n 2, 1) := by decide +kernel
theorem dX9_copies_3 : decode cX9_copies 3 = .ok (.bipush 16, 2) := by decide +kernel
theorem dX9_copies_5 : decode cX9_copies 5 = .ok (.if_icmp .ge 15, 3) := by decide +kernel
theorem dX9_copies_8 : decode cX9_copies 8 = .ok (.aload_n 1, 1) := by decide +kernel
theorem dX9_copies_9 : decode cX9_copies 9 = .ok (.iload_n 2, 1) := by decide +kernel
theorem dX9_copies_10 : decode cX9_copies 10 = .ok (.aload_n 0, 1) := by decide +kernel
theorem dX9_copies_11 : decode cX9_copies 11 = .ok (.iload_n 2, 1) := by decide +kernel
theorem dX9_copies_12 : decode cX9_copies 12 = .ok (.iaload, 1) := by decide +kernel
theorem dX9_copies_13 : decode cX9_copies 13 = .ok (.iastore, 1) := by decide +kernel
theorem dX9_copies_14 : decode cX9_copies 14 = .ok (.iinc 2 1, 3) := by decide +kernel
theorem dX9_copies_17 : decode cX9_copies 17 = .ok (.goto (-15), 3) := by decide +kernel
theorem dX9_copies_20 : decode cX9_copies 20 = .ok (.return_, 1) := by decide +kernel
theorem dX9_bits_0 : decode cX9_bits 0 = .ok (.iconst 0, 1) := by decide +kernel
theorem dX9_bits_1 : decode cX9_bits 1 = .ok (.istore_n 1, 1) := by decide +kernel
theorem dX9_bits_2 : decode cX9_bits 2 = .ok (.iload_n 0, 1) := by decide +kernel
theorem dX9_bits_3 : decode cX9_bits 3 = .ok (.istore_n 2, 1) := by decide +kernel
theorem dX9_bits_4 : decode cX9_bits 4 = .ok (.iload_n 2, 1) := by decide +kernel
theorem dX9_bits_5 : decode cX9_bits 5 = .ok (.ifCond .eq 15, 3) := by decide +kernel
theorem dX9_bits_8 : decode cX9_bits 8 = .ok (.iinc 1 1, 3) := by decide +kernel
theorem dX9_bits_11 : decode cX9_bits 11 = .ok (.iload_n 2, 1) := by decide +kernel
theorem dX9_bits_12 : decode cX9_bits 12 = .ok (.iload_n 2, 1) := by decide +kernel
theorem dX9_bits_13 : decode cX9_bits 13 = .ok (.iconst 1, 1) := by decide +kernel
theorem dX9_bits_14 : decode cX9_bits 14 = .ok (.isub, 1) := by decide +kernel
theorem dX9_bits_15 : decode cX9_bits 15 = .ok (.iand, 1) := by decide +kernel
theorem dX9_bits_16 : decode cX9_bits 16 = .ok (.istore_n 2, 1) := by decide +kernel
theorem dX9_bits_17 : decode cX9_bits 17 = .ok (.goto (-13), 3) := by decide +kernel
theorem dX9_bits_20 : decode cX9_bits 20 = .ok (.iload_n 1, 1) := by decide +kernel
theorem dX9_bits_21 : decode cX9_bits 21 = .ok (.ireturn, 1) := by decide +kernel
theorem dX9_ball_0 : decode cX9_ball 0 = .ok (.iload_n 0, 1) := by decide +kernel
theorem dX9_ball_1 : decode cX9_ball 1 = .ok (.invokestatic 109, 3) := by decide +kernel
theorem dX9_ball_4 : decode cX9_ball 4 = .ok (.iconst 1, 1) := by decide +kernel
theorem dX9_ball_5 : decode cX9_ball 5 = .ok (.if_icmp .eq 15, 3) := by decide +kernel
theorem dX9_ball_8 : decode cX9_ball 8 = .ok (.iload_n 0, 1) := by decide +kernel
theorem dX9_ball_9 : decode cX9_ball 9 = .ok (.bipush 6, 2) := by decide +kernel
theorem dX9_ball_11 : decode cX9_ball 11 = .ok (.if_icmp .eq 9, 3) := by decide +kernel
theorem dX9_ball_14 : decode cX9_ball 14 = .ok (.iload_n 0, 1) := by decide +kernel
theorem dX9_ball_15 : decode cX9_ball 15 = .ok (.bipush 9, 2) := by decide +kernel
theorem dX9_ball_17 : decode cX9_ball 17 = .ok (.if_icmp .ne 48, 3) := by decide +kernel
theorem dX9_ball_20 : decode cX9_ball 20 = .ok (.iload_n 0, 1) := by decide +kernel
theorem dX9_ball_21 : decode cX9_ball 21 = .ok (.iconst 1, 1) := by decide +kernel
theorem dX9_ball_22 : decode cX9_ball 22 = .ok (.if_icmp .ne 8, 3) := by decide +kernel
theorem dX9_ball_25 : decode cX9_ball 25 = .ok (.bipush 8, 2) := by decide +kernel
theorem dX9_ball_27 : decode cX9_ball 27 = .ok (.goto 39, 3) := by decide +kernel
theorem dX9_ball_30 : decode cX9_ball 30 = .ok (.iload_n 0, 1) := by decide +kernel
theorem dX9_ball_31 : decode cX9_ball 31 = .ok (.bipush 8, 2) := by decide +kernel
theorem dX9_ball_33 : decode cX9_ball 33 = .ok (.if_icmp .ne 7, 3) := by decide +kernel
theorem dX9_ball_36 : decode cX9_ball 36 = .ok (.iconst 1, 1) := by decide +kernel
theorem dX9_ball_37 : decode cX9_ball 37 = .ok (.goto 29, 3) := by decide +kernel
theorem dX9_ball_40 : decode cX9_ball 40 = .ok (.iload_n 0, 1) := by decide +kernel
theorem dX9_ball_41 : decode cX9_ball 41 = .ok (.iconst 2, 1) := by decide +kernel
theorem dX9_ball_42 : decode cX9_ball 42 = .ok (.if_icmp .ne 7, 3) := by decide +kernel
theorem dX9_ball_45 : decode cX9_ball 45 = .ok (.iconst 4, 1) := by decide +kernel
theorem dX9_ball_46 : decode cX9_ball 46 = .ok (.goto 20, 3) := by decide +kernel
theorem dX9_ball_49 : decode cX9_ball 49 = .ok (.iload_n 0, 1) := by decide +kernel
theorem dX9_ball_50 : decode cX9_ball 50 = .ok (.iconst 4, 1) := by decide +kernel
theorem dX9_ball_51 : decode cX9_ball 51 = .ok (.if_icmp .ne 7, 3) := by decide +kernel
theorem dX9_ball_54 : decode cX9_ball 54 = .ok (.iconst 2, 1) := by decide +kernel
theorem dX9_ball_55 : decode cX9_ball 55 = .ok (.goto 11, 3) := by decide +kernel
theorem dX9_ball_58 : decode cX9_ball 58 = .ok (.bipush 15, 2) := by decide +kernel
theorem dX9_ball_60 : decode cX9_ball 60 = .ok (.iload_n 0, 1) := by decide +kernel
theorem dX9_ball_61 : decode cX9_ball 61 = .ok (.isub, 1) := by decide +kernel
theorem dX9_ball_62 : decode cX9_ball 62 = .ok (.goto 4, 3) := by decide +kernel
theorem dX9_ball_65 : decode cX9_ball 65 = .ok (.iload_n 0, 1) := by decide +kernel
theorem dX9_ball_66 : decode cX9_ball 66 = .ok (.ireturn, 1) := by decide +kernel
theorem dX9_turned_0 : decode cX9_turned 0 = .ok (.iload_n 0, 1) := by decide +kernel
theorem dX9_turned_1 : decode cX9_turned 1 = .ok (.iconst 1, 1) := by decide +kernel
theorem dX9_turned_2 : decode cX9_turned 2 = .ok (.iand, 1) := by decide +kernel
theorem dX9_turned_3 : decode cX9_turned 3 = .ok (.iconst 1, 1) := by decide +kernel
theorem dX9_turned_4 : decode cX9_turned 4 = .ok (.ishl, 1) := by decide +kernel
theorem dX9_turned_5 : decode cX9_turned 5 = .ok (.iload_n 0, 1) := by decide +kernel
theorem dX9_turned_6 : decode cX9_turned 6 = .ok (.iconst 2, 1) := by decide +kernel
theorem dX9_turned_7 : decode cX9_turned 7 = .ok (.iand, 1) := by decide +kernel
theorem dX9_turned_8 : decode cX9_turned 8 = .ok (.iconst 2, 1) := by decide +kernel
theorem dX9_turned_9 : decode cX9_turned 9 = .ok (.ishl, 1) := by decide +kernel
theorem dX9_turned_10 : decode cX9_turned 10 = .ok (.ior, 1) := by decide +kernel
theorem dX9_turned_11 : decode cX9_turned 11 = .ok (.iload_n 0, 1) := by decide +kernel
theorem dX9_turned_12 : decode cX9_turned 12 = .ok (.bipush 8, 2) := by decide +kernel
theorem dX9_turned_14 : decode cX9_turned 14 = .ok (.iand, 1) := by decide +kernel
theorem dX9_turned_15 : decode cX9_turned 15 = .ok (.iconst 1, 1) := by decide +kernel
theorem dX9_turned_16 : decode cX9_turned 16 = .ok (.ishr, 1) := by decide +kernel
theorem dX9_turned_17 : decode cX9_turned 17 = .ok (.ior, 1) := by decide +kernel
theorem dX9_turned_18 : decode cX9_turned 18 = .ok (.iload_n 0, 1) := by decide +kernel
theorem dX9_turned_19 : decode cX9_turned 19 = .ok (.iconst 4, 1) := by decide +kernel
theorem dX9_turned_20 : decode cX9_turned 20 = .ok (.iand, 1) := by decide +kernel
theorem dX9_turned_21 : decode cX9_turned 21 = .ok (.iconst 2, 1) := by decide +kernel
theorem dX9_turned_22 : decode cX9_turned 22 = .ok (.ishr, 1) := by decide +kernel
theorem dX9_turned_23 : decode cX9_turned 23 = .ok (.ior, 1) := by decide +kernel
theorem dX9_turned_24 : decode cX9_turned 24 = .ok (.ireturn, 1) := by decide +kernel
theorem dX9_ruleOf_0 : decode cX9_ruleOf 0 = .ok (.iconst 0, 1) := by decide +kernel
theorem dX9_ruleOf_1 : decode cX9_ruleOf 1 = .ok (.istore_n 2, 1) := by decide +kernel
theorem dX9_ruleOf_2 : decode cX9_ruleOf 2 = .ok (.iload_n 2, 1) := by decide +kernel
theorem dX9_ruleOf_3 : decode cX9_ruleOf 3 = .ok (.bipush 16, 2) := by decide +kernel
theorem dX9_ruleOf_5 : decode cX9_ruleOf 5 = .ok (.if_icmp .ge 66, 3) := by decide +kernel
theorem dX9_ruleOf_8 : decode cX9_ruleOf 8 = .ok (.aload_n 1, 1) := by decide +kernel
theorem dX9_ruleOf_9 : decode cX9_ruleOf 9 = .ok (.iload_n 2, 1) := by decide +kernel
theorem dX9_ruleOf_10 : decode cX9_ruleOf 10 = .ok (.iload_n 0, 1) := by decide +kernel
theorem dX9_ruleOf_11 : decode cX9_ruleOf 11 = .ok (.ifCond .ne 7, 3) := by decide +kernel
theorem dX9_ruleOf_14 : decode cX9_ruleOf 14 = .ok (.iload_n 2, 1) := by decide +kernel
theorem dX9_ruleOf_15 : decode cX9_ruleOf 15 = .ok (.goto 49, 3) := by decide +kernel
theorem dX9_ruleOf_18 : decode cX9_ruleOf 18 = .ok (.iload_n 0, 1) := by decide +kernel
theorem dX9_ruleOf_19 : decode cX9_ruleOf 19 = .ok (.iconst 1, 1) := by decide +kernel
theorem dX9_ruleOf_20 : decode cX9_ruleOf 20 = .ok (.if_icmp .ne 10, 3) := by decide +kernel
theorem dX9_ruleOf_23 : decode cX9_ruleOf 23 = .ok (.iload_n 2, 1) := by decide +kernel
theorem dX9_ruleOf_24 : decode cX9_ruleOf 24 = .ok (.invokestatic 113, 3) := by decide +kernel
theorem dX9_ruleOf_27 : decode cX9_ruleOf 27 = .ok (.goto 37, 3) := by decide +kernel
theorem dX9_ruleOf_30 : decode cX9_ruleOf 30 = .ok (.iload_n 0, 1) := by decide +kernel
theorem dX9_ruleOf_31 : decode cX9_ruleOf 31 = .ok (.iconst 2, 1) := by decide +kernel
theorem dX9_ruleOf_32 : decode cX9_ruleOf 32 = .ok (.if_icmp .ne 16, 3) := by decide +kernel
theorem dX9_ruleOf_35 : decode cX9_ruleOf 35 = .ok (.iload_n 2, 1) := by decide +kernel
theorem dX9_ruleOf_36 : decode cX9_ruleOf 36 = .ok (.invokestatic 113, 3) := by decide +kernel
theorem dX9_ruleOf_39 : decode cX9_ruleOf 39 = .ok (.invokestatic 113, 3) := by decide +kernel
theorem dX9_ruleOf_42 : decode cX9_ruleOf 42 = .ok (.invokestatic 113, 3) := by decide +kernel
theorem dX9_ruleOf_45 : decode cX9_ruleOf 45 = .ok (.goto 19, 3) := by decide +kernel
theorem dX9_ruleOf_48 : decode cX9_ruleOf 48 = .ok (.iload_n 0, 1) := by decide +kernel
theorem dX9_ruleOf_49 : decode cX9_ruleOf 49 = .ok (.iconst 3, 1) := by decide +kernel
theorem dX9_ruleOf_50 : decode cX9_ruleOf 50 = .ok (.if_icmp .ne 10, 3) := by decide +kernel
theorem dX9_ruleOf_53 : decode cX9_ruleOf 53 = .ok (.bipush 15, 2) := by decide +kernel
theorem dX9_ruleOf_55 : decode cX9_ruleOf 55 = .ok (.iload_n 2, 1) := by decide +kernel
theorem dX9_ruleOf_56 : decode cX9_ruleOf 56 = .ok (.isub, 1) := by decide +kernel
theorem dX9_ruleOf_57 : decode cX9_ruleOf 57 = .ok (.goto 7, 3) := by decide +kernel
theorem dX9_ruleOf_60 : decode cX9_ruleOf 60 = .ok (.iload_n 2, 1) := by decide +kernel
theorem dX9_ruleOf_61 : decode cX9_ruleOf 61 = .ok (.invokestatic 116, 3) := by decide +kernel
theorem dX9_ruleOf_64 : decode cX9_ruleOf 64 = .ok (.iastore, 1) := by decide +kernel
theorem dX9_ruleOf_65 : decode cX9_ruleOf 65 = .ok (.iinc 2 1, 3) := by decide +kernel
theorem dX9_ruleOf_68 : decode cX9_ruleOf 68 = .ok (.goto (-66), 3) := by decide +kernel
theorem dX9_ruleOf_71 : decode cX9_ruleOf 71 = .ok (.return_, 1) := by decide +kernel
theorem dX9_rule_0 : decode cX9_rule 0 = .ok (.iload_n 1, 1) := by decide +kernel
theorem dX9_rule_1 : decode cX9_rule 1 = .ok (.i2l, 1) := by decide +kernel
theorem dX9_rule_2 : decode cX9_rule 2 = .ok (.lconst 0, 1) := by decide +kernel
theorem dX9_rule_3 : decode cX9_rule 3 = .ok (.ldc2_w 119, 3) := by decide +kernel
theorem dX9_rule_6 : decode cX9_rule 6 = .ok (.invokestatic 105, 3) := by decide +kernel
theorem dX9_rule_9 : decode cX9_rule 9 = .ok (.ifCond .ne 5, 3) := by decide +kernel
theorem dX9_rule_12 : decode cX9_rule 12 = .ok (.iconst (-1), 1) := by decide +kernel
theorem dX9_rule_13 : decode cX9_rule 13 = .ok (.ireturn, 1) := by decide +kernel
theorem dX9_rule_14 : decode cX9_rule 14 = .ok (.iload_n 1, 1) := by decide +kernel
theorem dX9_rule_15 : decode cX9_rule 15 = .ok (.aload_n 0, 1) := by decide +kernel
theorem dX9_rule_16 : decode cX9_rule 16 = .ok (.getfield 25, 3) := by decide +kernel
theorem dX9_rule_19 : decode cX9_rule 19 = .ok (.invokestatic 101, 3) := by decide +kernel
theorem dX9_rule_22 : decode cX9_rule 22 = .ok (.iconst 0, 1) := by decide +kernel
theorem dX9_rule_23 : decode cX9_rule 23 = .ok (.istore_n 2, 1) := by decide +kernel
theorem dX9_rule_24 : decode cX9_rule 24 = .ok (.iconst 0, 1) := by decide +kernel
theorem dX9_rule_25 : decode cX9_rule 25 = .ok (.istore_n 3, 1) := by decide +kernel
theorem dX9_rule_26 : decode cX9_rule 26 = .ok (.iload_n 3, 1) := by decide +kernel
theorem dX9_rule_27 : decode cX9_rule 27 = .ok (.bipush 16, 2) := by decide +kernel
theorem dX9_rule_29 : decode cX9_rule 29 = .ok (.if_icmp .ge 44, 3) := by decide +kernel
theorem dX9_rule_32 : decode cX9_rule 32 = .ok (.iload_n 2, 1) := by decide +kernel
theorem dX9_rule_33 : decode cX9_rule 33 = .ok (.aload_n 0, 1) := by decide +kernel
theorem dX9_rule_34 : decode cX9_rule 34 = .ok (.getfield 25, 3) := by decide +kernel
theorem dX9_rule_37 : decode cX9_rule 37 = .ok (.iload_n 3, 1) := by decide +kernel
theorem dX9_rule_38 : decode cX9_rule 38 = .ok (.iaload, 1) := by decide +kernel
theorem dX9_rule_39 : decode cX9_rule 39 = .ok (.aload_n 0, 1) := by decide +kernel
theorem dX9_rule_40 : decode cX9_rule 40 = .ok (.getfield 22, 3) := by decide +kernel
theorem dX9_rule_43 : decode cX9_rule 43 = .ok (.iload_n 3, 1) := by decide +kernel
theorem dX9_rule_44 : decode cX9_rule 44 = .ok (.iaload, 1) := by decide +kernel
theorem dX9_rule_45 : decode cX9_rule 45 = .ok (.if_icmp .eq 7, 3) := by decide +kernel
theorem dX9_rule_48 : decode cX9_rule 48 = .ok (.iconst 1, 1) := by decide +kernel
theorem dX9_rule_49 : decode cX9_rule 49 = .ok (.goto 4, 3) := by decide +kernel
theorem dX9_rule_52 : decode cX9_rule 52 = .ok (.iconst 0, 1) := by decide +kernel
theorem dX9_rule_53 : decode cX9_rule 53 = .ok (.ior, 1) := by decide +kernel
theorem dX9_rule_54 : decode cX9_rule 54 = .ok (.istore_n 2, 1) := by decide +kernel
theorem dX9_rule_55 : decode cX9_rule 55 = .ok (.aload_n 0, 1) := by decide +kernel
theorem dX9_rule_56 : decode cX9_rule 56 = .ok (.getfield 22, 3) := by decide +kernel
theorem dX9_rule_59 : decode cX9_rule 59 = .ok (.iload_n 3, 1) := by decide +kernel
theorem dX9_rule_60 : decode cX9_rule 60 = .ok (.aload_n 0, 1) := by decide +kernel
theorem dX9_rule_61 : decode cX9_rule 61 = .ok (.getfield 25, 3) := by decide +kernel
theorem dX9_rule_64 : decode cX9_rule 64 = .ok (.iload_n 3, 1) := by decide +kernel
theorem dX9_rule_65 : decode cX9_rule 65 = .ok (.iaload, 1) := by decide +kernel
theorem dX9_rule_66 : decode cX9_rule 66 = .ok (.iastore, 1) := by decide +kernel
theorem dX9_rule_67 : decode cX9_rule 67 = .ok (.iinc 3 1, 3) := by decide +kernel
theorem dX9_rule_70 : decode cX9_rule 70 = .ok (.goto (-44), 3) := by decide +kernel
theorem dX9_rule_73 : decode cX9_rule 73 = .ok (.iload_n 2, 1) := by decide +kernel
theorem dX9_rule_74 : decode cX9_rule 74 = .ok (.ifCond .eq 7, 3) := by decide +kernel
theorem dX9_rule_77 : decode cX9_rule 77 = .ok (.iconst 1, 1) := by decide +kernel
theorem dX9_rule_78 : decode cX9_rule 78 = .ok (.goto 4, 3) := by decide +kernel
theorem dX9_rule_81 : decode cX9_rule 81 = .ok (.iconst 0, 1) := by decide +kernel
theorem dX9_rule_82 : decode cX9_rule 82 = .ok (.ireturn, 1) := by decide +kernel
theorem dX9_change_0 : decode cX9_change 0 = .ok (.iload_n 1, 1) := by decide +kernel
theorem dX9_change_1 : decode cX9_change 1 = .ok (.i2l, 1) := by decide +kernel
theorem dX9_change_2 : decode cX9_change 2 = .ok (.lconst 0, 1) := by decide +kernel
theorem dX9_change_3 : decode cX9_change 3 = .ok (.ldc2_w 121, 3) := by decide +kernel
theorem dX9_change_6 : decode cX9_change 6 = .ok (.invokestatic 105, 3) := by decide +kernel
theorem dX9_change_9 : decode cX9_change 9 = .ok (.ifCond .eq 20, 3) := by decide +kernel
theorem dX9_change_12 : decode cX9_change 12 = .ok (.iload_n 2, 1) := by decide +kernel
theorem dX9_change_13 : decode cX9_change 13 = .ok (.i2l, 1) := by decide +kernel
theorem dX9_change_14 : decode cX9_change 14 = .ok (.lconst 0, 1) := by decide +kernel
theorem dX9_change_15 : decode cX9_change 15 = .ok (.ldc2_w 121, 3) := by decide +kernel
theorem dX9_change_18 : decode cX9_change 18 = .ok (.invokestatic 105, 3) := by decide +kernel
theorem dX9_change_21 : decode cX9_change 21 = .ok (.ifCond .eq 8, 3) := by decide +kernel
theorem dX9_change_24 : decode cX9_change 24 = .ok (.iload_n 1, 1) := by decide +kernel
theorem dX9_change_25 : decode cX9_change 25 = .ok (.iload_n 2, 1) := by decide +kernel
theorem dX9_change_26 : decode cX9_change 26 = .ok (.if_icmp .ne 5, 3) := by decide +kernel
theorem dX9_change_29 : decode cX9_change 29 = .ok (.iconst (-1), 1) := by decide +kernel
theorem dX9_change_30 : decode cX9_change 30 = .ok (.ireturn, 1) := by decide +kernel
theorem dX9_change_31 : decode cX9_change 31 = .ok (.aload_n 0, 1) := by decide +kernel
theorem dX9_change_32 : decode cX9_change 32 = .ok (.getfield 22, 3) := by decide +kernel
theorem dX9_change_35 : decode cX9_change 35 = .ok (.iload_n 1, 1) := by decide +kernel
theorem dX9_change_36 : decode cX9_change 36 = .ok (.iaload, 1) := by decide +kernel
theorem dX9_change_37 : decode cX9_change 37 = .ok (.istore_n 3, 1) := by decide +kernel
theorem dX9_change_38 : decode cX9_change 38 = .ok (.aload_n 0, 1) := by decide +kernel
theorem dX9_change_39 : decode cX9_change 39 = .ok (.getfield 22, 3) := by decide +kernel
theorem dX9_change_42 : decode cX9_change 42 = .ok (.iload_n 1, 1) := by decide +kernel
theorem dX9_change_43 : decode cX9_change 43 = .ok (.aload_n 0, 1) := by decide +kernel
theorem dX9_change_44 : decode cX9_change 44 = .ok (.getfield 22, 3) := by decide +kernel
theorem dX9_change_47 : decode cX9_change 47 = .ok (.iload_n 2, 1) := by decide +kernel
theorem dX9_change_48 : decode cX9_change 48 = .ok (.iaload, 1) := by decide +kernel
theorem dX9_change_49 : decode cX9_change 49 = .ok (.iastore, 1) := by decide +kernel
theorem dX9_change_50 : decode cX9_change 50 = .ok (.aload_n 0, 1) := by decide +kernel
theorem dX9_change_51 : decode cX9_change 51 = .ok (.getfield 22, 3) := by decide +kernel
theorem dX9_change_54 : decode cX9_change 54 = .ok (.iload_n 2, 1) := by decide +kernel
theorem dX9_change_55 : decode cX9_change 55 = .ok (.iload_n 3, 1) := by decide +kernel
theorem dX9_change_56 : decode cX9_change 56 = .ok (.iastore, 1) := by decide +kernel
theorem dX9_change_57 : decode cX9_change 57 = .ok (.aload_n 0, 1) := by decide +kernel
theorem dX9_change_58 : decode cX9_change 58 = .ok (.getfield 22, 3) := by decide +kernel
theorem dX9_change_61 : decode cX9_change 61 = .ok (.iload_n 1, 1) := by decide +kernel
theorem dX9_change_62 : decode cX9_change 62 = .ok (.iaload, 1) := by decide +kernel
theorem dX9_change_63 : decode cX9_change 63 = .ok (.ireturn, 1) := by decide +kernel
theorem dX9_inverse_0 : decode cX9_inverse 0 = .ok (.iconst 0, 1) := by decide +kernel
theorem dX9_inverse_1 : decode cX9_inverse 1 = .ok (.istore_n 2, 1) := by decide +kernel
theorem dX9_inverse_2 : decode cX9_inverse 2 = .ok (.iload_n 2, 1) := by decide +kernel
theorem dX9_inverse_3 : decode cX9_inverse 3 = .ok (.bipush 16, 2) := by decide +kernel
theorem dX9_inverse_5 : decode cX9_inverse 5 = .ok (.if_icmp .ge 15, 3) := by decide +kernel
theorem dX9_inverse_8 : decode cX9_inverse 8 = .ok (.aload_n 1, 1) := by decide +kernel
theorem dX9_inverse_9 : decode cX9_inverse 9 = .ok (.aload_n 0, 1) := by decide +kernel
theorem dX9_inverse_10 : decode cX9_inverse 10 = .ok (.iload_n 2, 1) := by decide +kernel
theorem dX9_inverse_11 : decode cX9_inverse 11 = .ok (.iaload, 1) := by decide +kernel
theorem dX9_inverse_12 : decode cX9_inverse 12 = .ok (.iload_n 2, 1) := by decide +kernel
theorem dX9_inverse_13 : decode cX9_inverse 13 = .ok (.iastore, 1) := by decide +kernel
theorem dX9_inverse_14 : decode cX9_inverse 14 = .ok (.iinc 2 1, 3) := by decide +kernel
theorem dX9_inverse_17 : decode cX9_inverse 17 = .ok (.goto (-15), 3) := by decide +kernel
theorem dX9_inverse_20 : decode cX9_inverse 20 = .ok (.return_, 1) := by decide +kernel
theorem dX9_becomes_0 : decode cX9_becomes 0 = .ok (.iload_n 1, 1) := by decide +kernel
theorem dX9_becomes_1 : decode cX9_becomes 1 = .ok (.i2l, 1) := by decide +kernel
theorem dX9_becomes_2 : decode cX9_becomes 2 = .ok (.lconst 0, 1) := by decide +kernel
theorem dX9_becomes_3 : decode cX9_becomes 3 = .ok (.ldc2_w 121, 3) := by decide +kernel
theorem dX9_becomes_6 : decode cX9_becomes 6 = .ok (.invokestatic 105, 3) := by decide +kernel
theorem dX9_becomes_9 : decode cX9_becomes 9 = .ok (.ifCond .ne 5, 3) := by decide +kernel
theorem dX9_becomes_12 : decode cX9_becomes 12 = .ok (.iconst (-1), 1) := by decide +kernel
theorem dX9_becomes_13 : decode cX9_becomes 13 = .ok (.ireturn, 1) := by decide +kernel
theorem dX9_becomes_14 : decode cX9_becomes 14 = .ok (.aload_n 0, 1) := by decide +kernel
theorem dX9_becomes_15 : decode cX9_becomes 15 = .ok (.getfield 22, 3) := by decide +kernel
theorem dX9_becomes_18 : decode cX9_becomes 18 = .ok (.aload_n 0, 1) := by decide +kernel
theorem dX9_becomes_19 : decode cX9_becomes 19 = .ok (.getfield 25, 3) := by decide +kernel
theorem dX9_becomes_22 : decode cX9_becomes 22 = .ok (.invokestatic 123, 3) := by decide +kernel
theorem dX9_becomes_25 : decode cX9_becomes 25 = .ok (.iload_n 2, 1) := by decide +kernel
theorem dX9_becomes_26 : decode cX9_becomes 26 = .ok (.ifCond .eq 12, 3) := by decide +kernel
theorem dX9_becomes_29 : decode cX9_becomes 29 = .ok (.aload_n 0, 1) := by decide +kernel
theorem dX9_becomes_30 : decode cX9_becomes 30 = .ok (.getfield 25, 3) := by decide +kernel
theorem dX9_becomes_33 : decode cX9_becomes 33 = .ok (.iload_n 1, 1) := by decide +kernel
theorem dX9_becomes_34 : decode cX9_becomes 34 = .ok (.iaload, 1) := by decide +kernel
theorem dX9_becomes_35 : decode cX9_becomes 35 = .ok (.goto 9, 3) := by decide +kernel
theorem dX9_becomes_38 : decode cX9_becomes 38 = .ok (.aload_n 0, 1) := by decide +kernel
theorem dX9_becomes_39 : decode cX9_becomes 39 = .ok (.getfield 22, 3) := by decide +kernel
theorem dX9_becomes_42 : decode cX9_becomes 42 = .ok (.iload_n 1, 1) := by decide +kernel
theorem dX9_becomes_43 : decode cX9_becomes 43 = .ok (.iaload, 1) := by decide +kernel
theorem dX9_becomes_44 : decode cX9_becomes 44 = .ok (.ireturn, 1) := by decide +kernel
theorem dX9_blockAt_0 : decode cX9_blockAt 0 = .ok (.iload_n 2, 1) := by decide +kernel
theorem dX9_blockAt_1 : decode cX9_blockAt 1 = .ok (.iconst 1, 1) := by decide +kernel
theorem dX9_blockAt_2 : decode cX9_blockAt 2 = .ok (.iadd, 1) := by decide +kernel
theorem dX9_blockAt_3 : decode cX9_blockAt 3 = .ok (.aload_n 0, 1) := by decide +kernel
theorem dX9_blockAt_4 : decode cX9_blockAt 4 = .ok (.getfield 9, 3) := by decide +kernel
theorem dX9_blockAt_7 : decode cX9_blockAt 7 = .ok (.irem, 1) := by decide +kernel
theorem dX9_blockAt_8 : decode cX9_blockAt 8 = .ok (.istore 4, 2) := by decide +kernel
theorem dX9_blockAt_10 : decode cX9_blockAt 10 = .ok (.iload_n 3, 1) := by decide +kernel
theorem dX9_blockAt_11 : decode cX9_blockAt 11 = .ok (.iconst 1, 1) := by decide +kernel
theorem dX9_blockAt_12 : decode cX9_blockAt 12 = .ok (.iadd, 1) := by decide +kernel
theorem dX9_blockAt_13 : decode cX9_blockAt 13 = .ok (.aload_n 0, 1) := by decide +kernel
theorem dX9_blockAt_14 : decode cX9_blockAt 14 = .ok (.getfield 15, 3) := by decide +kernel
theorem dX9_blockAt_17 : decode cX9_blockAt 17 = .ok (.irem, 1) := by decide +kernel
theorem dX9_blockAt_18 : decode cX9_blockAt 18 = .ok (.istore 5, 2) := by decide +kernel
theorem dX9_blockAt_20 : decode cX9_blockAt 20 = .ok (.aload_n 1, 1) := by decide +kernel
theorem dX9_blockAt_21 : decode cX9_blockAt 21 = .ok (.iload_n 3, 1) := by decide +kernel
theorem dX9_blockAt_22 : decode cX9_blockAt 22 = .ok (.iaload, 1) := by decide +kernel
theorem dX9_blockAt_23 : decode cX9_blockAt 23 = .ok (.iload_n 2, 1) := by decide +kernel
theorem dX9_blockAt_24 : decode cX9_blockAt 24 = .ok (.ishr, 1) := by decide +kernel
theorem dX9_blockAt_25 : decode cX9_blockAt 25 = .ok (.iconst 1, 1) := by decide +kernel
theorem dX9_blockAt_26 : decode cX9_blockAt 26 = .ok (.iand, 1) := by decide +kernel
theorem dX9_blockAt_27 : decode cX9_blockAt 27 = .ok (.aload_n 1, 1) := by decide +kernel
theorem dX9_blockAt_28 : decode cX9_blockAt 28 = .ok (.iload_n 3, 1) := by decide +kernel
theorem dX9_blockAt_29 : decode cX9_blockAt 29 = .ok (.iaload, 1) := by decide +kernel
theorem dX9_blockAt_30 : decode cX9_blockAt 30 = .ok (.iload 4, 2) := by decide +kernel
theorem dX9_blockAt_32 : decode cX9_blockAt 32 = .ok (.ishr, 1) := by decide +kernel
theorem dX9_blockAt_33 : decode cX9_blockAt 33 = .ok (.iconst 1, 1) := by decide +kernel
theorem dX9_blockAt_34 : decode cX9_blockAt 34 = .ok (.iand, 1) := by decide +kernel
theorem dX9_blockAt_35 : decode cX9_blockAt 35 = .ok (.iconst 1, 1) := by decide +kernel
theorem dX9_blockAt_36 : decode cX9_blockAt 36 = .ok (.ishl, 1) := by decide +kernel
theorem dX9_blockAt_37 : decode cX9_blockAt 37 = .ok (.ior, 1) := by decide +kernel
theorem dX9_blockAt_38 : decode cX9_blockAt 38 = .ok (.aload_n 1, 1) := by decide +kernel
theorem dX9_blockAt_39 : decode cX9_blockAt 39 = .ok (.iload 5, 2) := by decide +kernel
theorem dX9_blockAt_41 : decode cX9_blockAt 41 = .ok (.iaload, 1) := by decide +kernel
theorem dX9_blockAt_42 : decode cX9_blockAt 42 = .ok (.iload_n 2, 1) := by decide +kernel
theorem dX9_blockAt_43 : decode cX9_blockAt 43 = .ok (.ishr, 1) := by decide +kernel
theorem dX9_blockAt_44 : decode cX9_blockAt 44 = .ok (.iconst 1, 1) := by decide +kernel
theorem dX9_blockAt_45 : decode cX9_blockAt 45 = .ok (.iand, 1) := by decide +kernel
theorem dX9_blockAt_46 : decode cX9_blockAt 46 = .ok (.iconst 2, 1) := by decide +kernel
theorem dX9_blockAt_47 : decode cX9_blockAt 47 = .ok (.ishl, 1) := by decide +kernel
theorem dX9_blockAt_48 : decode cX9_blockAt 48 = .ok (.ior, 1) := by decide +kernel
theorem dX9_blockAt_49 : decode cX9_blockAt 49 = .ok (.aload_n 1, 1) := by decide +kernel
theorem dX9_blockAt_50 : decode cX9_blockAt 50 = .ok (.iload 5, 2) := by decide +kernel
theorem dX9_blockAt_52 : decode cX9_blockAt 52 = .ok (.iaload, 1) := by decide +kernel
theorem dX9_blockAt_53 : decode cX9_blockAt 53 = .ok (.iload 4, 2) := by decide +kernel
theorem dX9_blockAt_55 : decode cX9_blockAt 55 = .ok (.ishr, 1) := by decide +kernel
theorem dX9_blockAt_56 : decode cX9_blockAt 56 = .ok (.iconst 1, 1) := by decide +kernel
theorem dX9_blockAt_57 : decode cX9_blockAt 57 = .ok (.iand, 1) := by decide +kernel
theorem dX9_blockAt_58 : decode cX9_blockAt 58 = .ok (.iconst 3, 1) := by decide +kernel
theorem dX9_blockAt_59 : decode cX9_blockAt 59 = .ok (.ishl, 1) := by decide +kernel
theorem dX9_blockAt_60 : decode cX9_blockAt 60 = .ok (.ior, 1) := by decide +kernel
theorem dX9_blockAt_61 : decode cX9_blockAt 61 = .ok (.ireturn, 1) := by decide +kernel
theorem dX9_with_0 : decode cX9_with 0 = .ok (.iload_n 0, 1) := by decide +kernel
theorem dX9_with_1 : decode cX9_with 1 = .ok (.iconst 1, 1) := by decide +kernel
theorem dX9_with_2 : decode cX9_with 2 = .ok (.iload_n 1, 1) := by decide +kernel
theorem dX9_with_3 : decode cX9_with 3 = .ok (.ishl, 1) := by decide +kernel
theorem dX9_with_4 : decode cX9_with 4 = .ok (.iconst (-1), 1) := by decide +kernel
theorem dX9_with_5 : decode cX9_with 5 = .ok (.ixor, 1) := by decide +kernel
theorem dX9_with_6 : decode cX9_with 6 = .ok (.iand, 1) := by decide +kernel
theorem dX9_with_7 : decode cX9_with 7 = .ok (.iload_n 2, 1) := by decide +kernel
theorem dX9_with_8 : decode cX9_with 8 = .ok (.iload_n 1, 1) := by decide +kernel
theorem dX9_with_9 : decode cX9_with 9 = .ok (.ishl, 1) := by decide +kernel
theorem dX9_with_10 : decode cX9_with 10 = .ok (.ior, 1) := by decide +kernel
theorem dX9_with_11 : decode cX9_with 11 = .ok (.ireturn, 1) := by decide +kernel
theorem dX9_blockBecomes_0 : decode cX9_blockBecomes 0 = .ok (.iload_n 2, 1) := by decide +kernel
theorem dX9_blockBecomes_1 : decode cX9_blockBecomes 1 = .ok (.iconst 1, 1) := by decide +kernel
theorem dX9_blockBecomes_2 : decode cX9_blockBecomes 2 = .ok (.iadd, 1) := by decide +kernel
theorem dX9_blockBecomes_3 : decode cX9_blockBecomes 3 = .ok (.aload_n 0, 1) := by decide +kernel
theorem dX9_blockBecomes_4 : decode cX9_blockBecomes 4 = .ok (.getfield 9, 3) := by decide +kernel
theorem dX9_blockBecomes_7 : decode cX9_blockBecomes 7 = .ok (.irem, 1) := by decide +kernel
theorem dX9_blockBecomes_8 : decode cX9_blockBecomes 8 = .ok (.istore 5, 2) := by decide +kernel
theorem dX9_blockBecomes_10 : decode cX9_blockBecomes 10 = .ok (.iload_n 3, 1) := by decide +kernel
theorem dX9_blockBecomes_11 : decode cX9_blockBecomes 11 = .ok (.iconst 1, 1) := by decide +kernel
theorem dX9_blockBecomes_12 : decode cX9_blockBecomes 12 = .ok (.iadd, 1) := by decide +kernel
theorem dX9_blockBecomes_13 : decode cX9_blockBecomes 13 = .ok (.aload_n 0, 1) := by decide +kernel
theorem dX9_blockBecomes_14 : decode cX9_blockBecomes 14 = .ok (.getfield 15, 3) := by decide +kernel
theorem dX9_blockBecomes_17 : decode cX9_blockBecomes 17 = .ok (.irem, 1) := by decide +kernel
theorem dX9_blockBecomes_18 : decode cX9_blockBecomes 18 = .ok (.istore 6, 2) := by decide +kernel
theorem dX9_blockBecomes_20 : decode cX9_blockBecomes 20 = .ok (.aload_n 1, 1) := by decide +kernel
theorem dX9_blockBecomes_21 : decode cX9_blockBecomes 21 = .ok (.iload_n 3, 1) := by decide +kernel
theorem dX9_blockBecomes_22 : decode cX9_blockBecomes 22 = .ok (.aload_n 1, 1) := by decide +kernel
theorem dX9_blockBecomes_23 : decode cX9_blockBecomes 23 = .ok (.iload_n 3, 1) := by decide +kernel
theorem dX9_blockBecomes_24 : decode cX9_blockBecomes 24 = .ok (.iaload, 1) := by decide +kernel
theorem dX9_blockBecomes_25 : decode cX9_blockBecomes 25 = .ok (.iload_n 2, 1) := by decide +kernel
theorem dX9_blockBecomes_26 : decode cX9_blockBecomes 26 = .ok (.iload 4, 2) := by decide +kernel
theorem dX9_blockBecomes_28 : decode cX9_blockBecomes 28 = .ok (.iconst 1, 1) := by decide +kernel
theorem dX9_blockBecomes_29 : decode cX9_blockBecomes 29 = .ok (.iand, 1) := by decide +kernel
theorem dX9_blockBecomes_30 : decode cX9_blockBecomes 30 = .ok (.invokestatic 127, 3) := by decide +kernel
theorem dX9_blockBecomes_33 : decode cX9_blockBecomes 33 = .ok (.iastore, 1) := by decide +kernel
theorem dX9_blockBecomes_34 : decode cX9_blockBecomes 34 = .ok (.aload_n 1, 1) := by decide +kernel
theorem dX9_blockBecomes_35 : decode cX9_blockBecomes 35 = .ok (.iload_n 3, 1) := by decide +kernel
theorem dX9_blockBecomes_36 : decode cX9_blockBecomes 36 = .ok (.aload_n 1, 1) := by decide +kernel
theorem dX9_blockBecomes_37 : decode cX9_blockBecomes 37 = .ok (.iload_n 3, 1) := by decide +kernel
theorem dX9_blockBecomes_38 : decode cX9_blockBecomes 38 = .ok (.iaload, 1) := by decide +kernel
theorem dX9_blockBecomes_39 : decode cX9_blockBecomes 39 = .ok (.iload 5, 2) := by decide +kernel
theorem dX9_blockBecomes_41 : decode cX9_blockBecomes 41 = .ok (.iload 4, 2) := by decide +kernel
theorem dX9_blockBecomes_43 : decode cX9_blockBecomes 43 = .ok (.iconst 1, 1) := by decide +kernel
theorem dX9_blockBecomes_44 : decode cX9_blockBecomes 44 = .ok (.ishr, 1) := by decide +kernel
theorem dX9_blockBecomes_45 : decode cX9_blockBecomes 45 = .ok (.iconst 1, 1) := by decide +kernel
theorem dX9_blockBecomes_46 : decode cX9_blockBecomes 46 = .ok (.iand, 1) := by decide +kernel
theorem dX9_blockBecomes_47 : decode cX9_blockBecomes 47 = .ok (.invokestatic 127, 3) := by decide +kernel
theorem dX9_blockBecomes_50 : decode cX9_blockBecomes 50 = .ok (.iastore, 1) := by decide +kernel
theorem dX9_blockBecomes_51 : decode cX9_blockBecomes 51 = .ok (.aload_n 1, 1) := by decide +kernel
theorem dX9_blockBecomes_52 : decode cX9_blockBecomes 52 = .ok (.iload 6, 2) := by decide +kernel
theorem dX9_blockBecomes_54 : decode cX9_blockBecomes 54 = .ok (.aload_n 1, 1) := by decide +kernel
theorem dX9_blockBecomes_55 : decode cX9_blockBecomes 55 = .ok (.iload 6, 2) := by decide +kernel
theorem dX9_blockBecomes_57 : decode cX9_blockBecomes 57 = .ok (.iaload, 1) := by decide +kernel
theorem dX9_blockBecomes_58 : decode cX9_blockBecomes 58 = .ok (.iload_n 2, 1) := by decide +kernel
theorem dX9_blockBecomes_59 : decode cX9_blockBecomes 59 = .ok (.iload 4, 2) := by decide +kernel
theorem dX9_blockBecomes_61 : decode cX9_blockBecomes 61 = .ok (.iconst 2, 1) := by decide +kernel
theorem dX9_blockBecomes_62 : decode cX9_blockBecomes 62 = .ok (.ishr, 1) := by decide +kernel
theorem dX9_blockBecomes_63 : decode cX9_blockBecomes 63 = .ok (.iconst 1, 1) := by decide +kernel
theorem dX9_blockBecomes_64 : decode cX9_blockBecomes 64 = .ok (.iand, 1) := by decide +kernel
theorem dX9_blockBecomes_65 : decode cX9_blockBecomes 65 = .ok (.invokestatic 127, 3) := by decide +kernel
theorem dX9_blockBecomes_68 : decode cX9_blockBecomes 68 = .ok (.iastore, 1) := by decide +kernel
theorem dX9_blockBecomes_69 : decode cX9_blockBecomes 69 = .ok (.aload_n 1, 1) := by decide +kernel
theorem dX9_blockBecomes_70 : decode cX9_blockBecomes 70 = .ok (.iload 6, 2) := by decide +kernel
theorem dX9_blockBecomes_72 : decode cX9_blockBecomes 72 = .ok (.aload_n 1, 1) := by decide +kernel
theorem dX9_blockBecomes_73 : decode cX9_blockBecomes 73 = .ok (.iload 6, 2) := by decide +kernel
theorem dX9_blockBecomes_75 : decode cX9_blockBecomes 75 = .ok (.iaload, 1) := by decide +kernel
theorem dX9_blockBecomes_76 : decode cX9_blockBecomes 76 = .ok (.iload 5, 2) := by decide +kernel
theorem dX9_blockBecomes_78 : decode cX9_blockBecomes 78 = .ok (.iload 4, 2) := by decide +kernel
theorem dX9_blockBecomes_80 : decode cX9_blockBecomes 80 = .ok (.iconst 3, 1) := by decide +kernel
theorem dX9_blockBecomes_81 : decode cX9_blockBecomes 81 = .ok (.ishr, 1) := by decide +kernel
theorem dX9_blockBecomes_82 : decode cX9_blockBecomes 82 = .ok (.iconst 1, 1) := by decide +kernel
theorem dX9_blockBecomes_83 : decode cX9_blockBecomes 83 = .ok (.iand, 1) := by decide +kernel
theorem dX9_blockBecomes_84 : decode cX9_blockBecomes 84 = .ok (.invokestatic 127, 3) := by decide +kernel
theorem dX9_blockBecomes_87 : decode cX9_blockBecomes 87 = .ok (.iastore, 1) := by decide +kernel
theorem dX9_blockBecomes_88 : decode cX9_blockBecomes 88 = .ok (.return_, 1) := by decide +kernel
theorem dX9_blocks_0 : decode cX9_blocks 0 = .ok (.iload_n 2, 1) := by decide +kernel
theorem dX9_blocks_1 : decode cX9_blocks 1 = .ok (.istore 4, 2) := by decide +kernel
theorem dX9_blocks_3 : decode cX9_blocks 3 = .ok (.iload 4, 2) := by decide +kernel
theorem dX9_blocks_5 : decode cX9_blocks 5 = .ok (.aload_n 0, 1) := by decide +kernel
theorem dX9_blocks_6 : decode cX9_blocks 6 = .ok (.getfield 15, 3) := by decide +kernel
theorem dX9_blocks_9 : decode cX9_blocks 9 = .ok (.if_icmp .ge 47, 3) := by decide +kernel
theorem dX9_blocks_12 : decode cX9_blocks 12 = .ok (.iload_n 2, 1) := by decide +kernel
theorem dX9_blocks_13 : decode cX9_blocks 13 = .ok (.istore 5, 2) := by decide +kernel
theorem dX9_blocks_15 : decode cX9_blocks 15 = .ok (.iload 5, 2) := by decide +kernel
theorem dX9_blocks_17 : decode cX9_blocks 17 = .ok (.aload_n 0, 1) := by decide +kernel
theorem dX9_blocks_18 : decode cX9_blocks 18 = .ok (.getfield 9, 3) := by decide +kernel
theorem dX9_blocks_21 : decode cX9_blocks 21 = .ok (.if_icmp .ge 29, 3) := by decide +kernel
theorem dX9_blocks_24 : decode cX9_blocks 24 = .ok (.aload_n 0, 1) := by decide +kernel
theorem dX9_blocks_25 : decode cX9_blocks 25 = .ok (.aload_n 1, 1) := by decide +kernel
theorem dX9_blocks_26 : decode cX9_blocks 26 = .ok (.iload 5, 2) := by decide +kernel
theorem dX9_blocks_28 : decode cX9_blocks 28 = .ok (.iload 4, 2) := by decide +kernel
theorem dX9_blocks_30 : decode cX9_blocks 30 = .ok (.aload_n 3, 1) := by decide +kernel
theorem dX9_blocks_31 : decode cX9_blocks 31 = .ok (.aload_n 0, 1) := by decide +kernel
theorem dX9_blocks_32 : decode cX9_blocks 32 = .ok (.aload_n 1, 1) := by decide +kernel
theorem dX9_blocks_33 : decode cX9_blocks 33 = .ok (.iload 5, 2) := by decide +kernel
theorem dX9_blocks_35 : decode cX9_blocks 35 = .ok (.iload 4, 2) := by decide +kernel
theorem dX9_blocks_37 : decode cX9_blocks 37 = .ok (.invokevirtual 131, 3) := by decide +kernel
theorem dX9_blocks_40 : decode cX9_blocks 40 = .ok (.iaload, 1) := by decide +kernel
theorem dX9_blocks_41 : decode cX9_blocks 41 = .ok (.invokevirtual 135, 3) := by decide +kernel
theorem dX9_blocks_44 : decode cX9_blocks 44 = .ok (.iinc 5 2, 3) := by decide +kernel
theorem dX9_blocks_47 : decode cX9_blocks 47 = .ok (.goto (-32), 3) := by decide +kernel
theorem dX9_blocks_50 : decode cX9_blocks 50 = .ok (.iinc 4 2, 3) := by decide +kernel
theorem dX9_blocks_53 : decode cX9_blocks 53 = .ok (.goto (-50), 3) := by decide +kernel
theorem dX9_blocks_56 : decode cX9_blocks 56 = .ok (.return_, 1) := by decide +kernel
theorem dX9_minds_0 : decode cX9_minds 0 = .ok (.aload_n 0, 1) := by decide +kernel
theorem dX9_minds_1 : decode cX9_minds 1 = .ok (.getfield 18, 3) := by decide +kernel
theorem dX9_minds_4 : decode cX9_minds 4 = .ok (.aload_n 0, 1) := by decide +kernel
theorem dX9_minds_5 : decode cX9_minds 5 = .ok (.getfield 43, 3) := by decide +kernel
theorem dX9_minds_8 : decode cX9_minds 8 = .ok (.invokestatic 139, 3) := by decide +kernel
theorem dX9_minds_11 : decode cX9_minds 11 = .ok (.aload_n 0, 1) := by decide +kernel
theorem dX9_minds_12 : decode cX9_minds 12 = .ok (.getfield 22, 3) := by decide +kernel
theorem dX9_minds_15 : decode cX9_minds 15 = .ok (.aload_n 0, 1) := by decide +kernel
theorem dX9_minds_16 : decode cX9_minds 16 = .ok (.getfield 46, 3) := by decide +kernel
theorem dX9_minds_19 : decode cX9_minds 19 = .ok (.invokestatic 139, 3) := by decide +kernel
theorem dX9_minds_22 : decode cX9_minds 22 = .ok (.aload_n 0, 1) := by decide +kernel
theorem dX9_minds_23 : decode cX9_minds 23 = .ok (.getfield 46, 3) := by decide +kernel
theorem dX9_minds_26 : decode cX9_minds 26 = .ok (.aload_n 0, 1) := by decide +kernel
theorem dX9_minds_27 : decode cX9_minds 27 = .ok (.getfield 49, 3) := by decide +kernel
theorem dX9_minds_30 : decode cX9_minds 30 = .ok (.invokestatic 123, 3) := by decide +kernel
theorem dX9_minds_33 : decode cX9_minds 33 = .ok (.aload_n 0, 1) := by decide +kernel
theorem dX9_minds_34 : decode cX9_minds 34 = .ok (.aload_n 0, 1) := by decide +kernel
theorem dX9_minds_35 : decode cX9_minds 35 = .ok (.getfield 142, 3) := by decide +kernel
theorem dX9_minds_38 : decode cX9_minds 38 = .ok (.putfield 145, 3) := by decide +kernel
theorem dX9_minds_41 : decode cX9_minds 41 = .ok (.return_, 1) := by decide +kernel
theorem dX9_goes_0 : decode cX9_goes 0 = .ok (.iconst 0, 1) := by decide +kernel
theorem dX9_goes_1 : decode cX9_goes 1 = .ok (.istore_n 2, 1) := by decide +kernel
theorem dX9_goes_2 : decode cX9_goes 2 = .ok (.iload_n 2, 1) := by decide +kernel
theorem dX9_goes_3 : decode cX9_goes 3 = .ok (.iload_n 1, 1) := by decide +kernel
theorem dX9_goes_4 : decode cX9_goes 4 = .ok (.if_icmp .ge 37, 3) := by decide +kernel
theorem dX9_goes_7 : decode cX9_goes 7 = .ok (.aload_n 0, 1) := by decide +kernel
theorem dX9_goes_8 : decode cX9_goes 8 = .ok (.aload_n 0, 1) := by decide +kernel
theorem dX9_goes_9 : decode cX9_goes 9 = .ok (.getfield 43, 3) := by decide +kernel
theorem dX9_goes_12 : decode cX9_goes 12 = .ok (.aload_n 0, 1) := by decide +kernel
theorem dX9_goes_13 : decode cX9_goes 13 = .ok (.getfield 145, 3) := by decide +kernel
theorem dX9_goes_16 : decode cX9_goes 16 = .ok (.iconst 1, 1) := by decide +kernel
theorem dX9_goes_17 : decode cX9_goes 17 = .ok (.iand, 1) := by decide +kernel
theorem dX9_goes_18 : decode cX9_goes 18 = .ok (.aload_n 0, 1) := by decide +kernel
theorem dX9_goes_19 : decode cX9_goes 19 = .ok (.getfield 46, 3) := by decide +kernel
theorem dX9_goes_22 : decode cX9_goes 22 = .ok (.invokevirtual 148, 3) := by decide +kernel
theorem dX9_goes_25 : decode cX9_goes 25 = .ok (.aload_n 0, 1) := by decide +kernel
theorem dX9_goes_26 : decode cX9_goes 26 = .ok (.dup, 1) := by decide +kernel
theorem dX9_goes_27 : decode cX9_goes 27 = .ok (.getfield 145, 3) := by decide +kernel
theorem dX9_goes_30 : decode cX9_goes 30 = .ok (.iconst 1, 1) := by decide +kernel
theorem dX9_goes_31 : decode cX9_goes 31 = .ok (.iadd, 1) := by decide +kernel
theorem dX9_goes_32 : decode cX9_goes 32 = .ok (.putfield 145, 3) := by decide +kernel
theorem dX9_goes_35 : decode cX9_goes 35 = .ok (.iinc 2 1, 3) := by decide +kernel
theorem dX9_goes_38 : decode cX9_goes 38 = .ok (.goto (-36), 3) := by decide +kernel
theorem dX9_goes_41 : decode cX9_goes 41 = .ok (.iconst 0, 1) := by decide +kernel
theorem dX9_goes_42 : decode cX9_goes 42 = .ok (.istore_n 2, 1) := by decide +kernel
theorem dX9_goes_43 : decode cX9_goes 43 = .ok (.iload_n 2, 1) := by decide +kernel
theorem dX9_goes_44 : decode cX9_goes 44 = .ok (.iload_n 1, 1) := by decide +kernel
theorem dX9_goes_45 : decode cX9_goes 45 = .ok (.if_icmp .le 37, 3) := by decide +kernel
theorem dX9_goes_48 : decode cX9_goes 48 = .ok (.aload_n 0, 1) := by decide +kernel
theorem dX9_goes_49 : decode cX9_goes 49 = .ok (.dup, 1) := by decide +kernel
theorem dX9_goes_50 : decode cX9_goes 50 = .ok (.getfield 145, 3) := by decide +kernel
theorem dX9_goes_53 : decode cX9_goes 53 = .ok (.iconst 1, 1) := by decide +kernel
theorem dX9_goes_54 : decode cX9_goes 54 = .ok (.isub, 1) := by decide +kernel
theorem dX9_goes_55 : decode cX9_goes 55 = .ok (.putfield 145, 3) := by decide +kernel
theorem dX9_goes_58 : decode cX9_goes 58 = .ok (.aload_n 0, 1) := by decide +kernel
theorem dX9_goes_59 : decode cX9_goes 59 = .ok (.aload_n 0, 1) := by decide +kernel
theorem dX9_goes_60 : decode cX9_goes 60 = .ok (.getfield 43, 3) := by decide +kernel
theorem dX9_goes_63 : decode cX9_goes 63 = .ok (.aload_n 0, 1) := by decide +kernel
theorem dX9_goes_64 : decode cX9_goes 64 = .ok (.getfield 145, 3) := by decide +kernel
theorem dX9_goes_67 : decode cX9_goes 67 = .ok (.iconst 1, 1) := by decide +kernel
theorem dX9_goes_68 : decode cX9_goes 68 = .ok (.iand, 1) := by decide +kernel
theorem dX9_goes_69 : decode cX9_goes 69 = .ok (.aload_n 0, 1) := by decide +kernel
theorem dX9_goes_70 : decode cX9_goes 70 = .ok (.getfield 49, 3) := by decide +kernel
theorem dX9_goes_73 : decode cX9_goes 73 = .ok (.invokevirtual 148, 3) := by decide +kernel
theorem dX9_goes_76 : decode cX9_goes 76 = .ok (.iinc 2 (-1), 3) := by decide +kernel
theorem dX9_goes_79 : decode cX9_goes 79 = .ok (.goto (-36), 3) := by decide +kernel
theorem dX9_goes_82 : decode cX9_goes 82 = .ok (.return_, 1) := by decide +kernel
theorem dX9_size_0 : decode cX9_size 0 = .ok (.iload_n 1, 1) := by decide +kernel
theorem dX9_size_1 : decode cX9_size 1 = .ok (.i2l, 1) := by decide +kernel
theorem dX9_size_2 : decode cX9_size 2 = .ok (.ldc2_w 152, 3) := by decide +kernel
theorem dX9_size_5 : decode cX9_size 5 = .ok (.ldc2_w 154, 3) := by decide +kernel
theorem dX9_size_8 : decode cX9_size 8 = .ok (.invokestatic 105, 3) := by decide +kernel
theorem dX9_size_11 : decode cX9_size 11 = .ok (.ifCond .eq 29, 3) := by decide +kernel
theorem dX9_size_14 : decode cX9_size 14 = .ok (.iload_n 2, 1) := by decide +kernel
theorem dX9_size_15 : decode cX9_size 15 = .ok (.i2l, 1) := by decide +kernel
theorem dX9_size_16 : decode cX9_size 16 = .ok (.ldc2_w 152, 3) := by decide +kernel
theorem dX9_size_19 : decode cX9_size 19 = .ok (.ldc2_w 154, 3) := by decide +kernel
theorem dX9_size_22 : decode cX9_size 22 = .ok (.invokestatic 105, 3) := by decide +kernel
theorem dX9_size_25 : decode cX9_size 25 = .ok (.ifCond .eq 15, 3) := by decide +kernel
theorem dX9_size_28 : decode cX9_size 28 = .ok (.iload_n 1, 1) := by decide +kernel
theorem dX9_size_29 : decode cX9_size 29 = .ok (.iconst 2, 1) := by decide +kernel
theorem dX9_size_30 : decode cX9_size 30 = .ok (.irem, 1) := by decide +kernel
theorem dX9_size_31 : decode cX9_size 31 = .ok (.ifCond .ne 9, 3) := by decide +kernel
theorem dX9_size_34 : decode cX9_size 34 = .ok (.iload_n 2, 1) := by decide +kernel
theorem dX9_size_35 : decode cX9_size 35 = .ok (.iconst 2, 1) := by decide +kernel
theorem dX9_size_36 : decode cX9_size 36 = .ok (.irem, 1) := by decide +kernel
theorem dX9_size_37 : decode cX9_size 37 = .ok (.ifCond .eq 6, 3) := by decide +kernel
theorem dX9_size_40 : decode cX9_size 40 = .ok (.bipush (-2), 2) := by decide +kernel
theorem dX9_size_42 : decode cX9_size 42 = .ok (.ireturn, 1) := by decide +kernel
theorem dX9_size_43 : decode cX9_size 43 = .ok (.bipush 100, 2) := by decide +kernel
theorem dX9_size_45 : decode cX9_size 45 = .ok (.aload_n 0, 1) := by decide +kernel
theorem dX9_size_46 : decode cX9_size 46 = .ok (.getfield 9, 3) := by decide +kernel
theorem dX9_size_49 : decode cX9_size 49 = .ok (.imul, 1) := by decide +kernel
theorem dX9_size_50 : decode cX9_size 50 = .ok (.aload_n 0, 1) := by decide +kernel
theorem dX9_size_51 : decode cX9_size 51 = .ok (.getfield 15, 3) := by decide +kernel
theorem dX9_size_54 : decode cX9_size 54 = .ok (.iadd, 1) := by decide +kernel
theorem dX9_size_55 : decode cX9_size 55 = .ok (.istore_n 3, 1) := by decide +kernel
theorem dX9_size_56 : decode cX9_size 56 = .ok (.aload_n 0, 1) := by decide +kernel
theorem dX9_size_57 : decode cX9_size 57 = .ok (.iload_n 1, 1) := by decide +kernel
theorem dX9_size_58 : decode cX9_size 58 = .ok (.putfield 9, 3) := by decide +kernel
theorem dX9_size_61 : decode cX9_size 61 = .ok (.aload_n 0, 1) := by decide +kernel
theorem dX9_size_62 : decode cX9_size 62 = .ok (.iload_n 2, 1) := by decide +kernel
theorem dX9_size_63 : decode cX9_size 63 = .ok (.putfield 15, 3) := by decide +kernel
theorem dX9_size_66 : decode cX9_size 66 = .ok (.iconst 0, 1) := by decide +kernel
theorem dX9_size_67 : decode cX9_size 67 = .ok (.istore 4, 2) := by decide +kernel
theorem dX9_size_69 : decode cX9_size 69 = .ok (.iload 4, 2) := by decide +kernel
theorem dX9_size_71 : decode cX9_size 71 = .ok (.bipush 16, 2) := by decide +kernel
theorem dX9_size_73 : decode cX9_size 73 = .ok (.if_icmp .ge 17, 3) := by decide +kernel
theorem dX9_size_76 : decode cX9_size 76 = .ok (.aload_n 0, 1) := by decide +kernel
theorem dX9_size_77 : decode cX9_size 77 = .ok (.getfield 18, 3) := by decide +kernel
theorem dX9_size_80 : decode cX9_size 80 = .ok (.iload 4, 2) := by decide +kernel
theorem dX9_size_82 : decode cX9_size 82 = .ok (.iconst 0, 1) := by decide +kernel
theorem dX9_size_83 : decode cX9_size 83 = .ok (.iastore, 1) := by decide +kernel
theorem dX9_size_84 : decode cX9_size 84 = .ok (.iinc 4 1, 3) := by decide +kernel
theorem dX9_size_87 : decode cX9_size 87 = .ok (.goto (-18), 3) := by decide +kernel
theorem dX9_size_90 : decode cX9_size 90 = .ok (.aload_n 0, 1) := by decide +kernel
theorem dX9_size_91 : decode cX9_size 91 = .ok (.iconst 0, 1) := by decide +kernel
theorem dX9_size_92 : decode cX9_size 92 = .ok (.putfield 142, 3) := by decide +kernel
theorem dX9_size_95 : decode cX9_size 95 = .ok (.aload_n 0, 1) := by decide +kernel
theorem dX9_size_96 : decode cX9_size 96 = .ok (.iconst 0, 1) := by decide +kernel
theorem dX9_size_97 : decode cX9_size 97 = .ok (.putfield 156, 3) := by decide +kernel
theorem dX9_size_100 : decode cX9_size 100 = .ok (.iload_n 3, 1) := by decide +kernel
theorem dX9_size_101 : decode cX9_size 101 = .ok (.ireturn, 1) := by decide +kernel
theorem dX9_toggle_0 : decode cX9_toggle 0 = .ok (.aload_n 0, 1) := by decide +kernel
theorem dX9_toggle_1 : decode cX9_toggle 1 = .ok (.iload_n 1, 1) := by decide +kernel
theorem dX9_toggle_2 : decode cX9_toggle 2 = .ok (.iload_n 2, 1) := by decide +kernel
theorem dX9_toggle_3 : decode cX9_toggle 3 = .ok (.invokevirtual 159, 3) := by decide +kernel
theorem dX9_toggle_6 : decode cX9_toggle 6 = .ok (.ifCond .ne 5, 3) := by decide +kernel
theorem dX9_toggle_9 : decode cX9_toggle 9 = .ok (.iconst (-1), 1) := by decide +kernel
theorem dX9_toggle_10 : decode cX9_toggle 10 = .ok (.ireturn, 1) := by decide +kernel
theorem dX9_toggle_11 : decode cX9_toggle 11 = .ok (.aload_n 0, 1) := by decide +kernel
theorem dX9_toggle_12 : decode cX9_toggle 12 = .ok (.getfield 156, 3) := by decide +kernel
theorem dX9_toggle_15 : decode cX9_toggle 15 = .ok (.bipush 12, 2) := by decide +kernel
theorem dX9_toggle_17 : decode cX9_toggle 17 = .ok (.if_icmp .ne 55, 3) := by decide +kernel
theorem dX9_toggle_20 : decode cX9_toggle 20 = .ok (.iconst 1, 1) := by decide +kernel
theorem dX9_toggle_21 : decode cX9_toggle 21 = .ok (.istore_n 3, 1) := by decide +kernel
theorem dX9_toggle_22 : decode cX9_toggle 22 = .ok (.iload_n 3, 1) := by decide +kernel
theorem dX9_toggle_23 : decode cX9_toggle 23 = .ok (.bipush 12, 2) := by decide +kernel
theorem dX9_toggle_25 : decode cX9_toggle 25 = .ok (.if_icmp .ge 37, 3) := by decide +kernel
theorem dX9_toggle_28 : decode cX9_toggle 28 = .ok (.aload_n 0, 1) := by decide +kernel
theorem dX9_toggle_29 : decode cX9_toggle 29 = .ok (.getfield 52, 3) := by decide +kernel
theorem dX9_toggle_32 : decode cX9_toggle 32 = .ok (.iload_n 3, 1) := by decide +kernel
theorem dX9_toggle_33 : decode cX9_toggle 33 = .ok (.iconst 1, 1) := by decide +kernel
theorem dX9_toggle_34 : decode cX9_toggle 34 = .ok (.isub, 1) := by decide +kernel
theorem dX9_toggle_35 : decode cX9_toggle 35 = .ok (.aload_n 0, 1) := by decide +kernel
theorem dX9_toggle_36 : decode cX9_toggle 36 = .ok (.getfield 52, 3) := by decide +kernel
theorem dX9_toggle_39 : decode cX9_toggle 39 = .ok (.iload_n 3, 1) := by decide +kernel
theorem dX9_toggle_40 : decode cX9_toggle 40 = .ok (.iaload, 1) := by decide +kernel
theorem dX9_toggle_41 : decode cX9_toggle 41 = .ok (.iastore, 1) := by decide +kernel
theorem dX9_toggle_42 : decode cX9_toggle 42 = .ok (.aload_n 0, 1) := by decide +kernel
theorem dX9_toggle_43 : decode cX9_toggle 43 = .ok (.getfield 55, 3) := by decide +kernel
theorem dX9_toggle_46 : decode cX9_toggle 46 = .ok (.iload_n 3, 1) := by decide +kernel
theorem dX9_toggle_47 : decode cX9_toggle 47 = .ok (.iconst 1, 1) := by decide +kernel
theorem dX9_toggle_48 : decode cX9_toggle 48 = .ok (.isub, 1) := by decide +kernel
theorem dX9_toggle_49 : decode cX9_toggle 49 = .ok (.aload_n 0, 1) := by decide +kernel
theorem dX9_toggle_50 : decode cX9_toggle 50 = .ok (.getfield 55, 3) := by decide +kernel
theorem dX9_toggle_53 : decode cX9_toggle 53 = .ok (.iload_n 3, 1) := by decide +kernel
theorem dX9_toggle_54 : decode cX9_toggle 54 = .ok (.iaload, 1) := by decide +kernel
theorem dX9_toggle_55 : decode cX9_toggle 55 = .ok (.iastore, 1) := by decide +kernel
theorem dX9_toggle_56 : decode cX9_toggle 56 = .ok (.iinc 3 1, 3) := by decide +kernel
theorem dX9_toggle_59 : decode cX9_toggle 59 = .ok (.goto (-37), 3) := by decide +kernel
theorem dX9_toggle_62 : decode cX9_toggle 62 = .ok (.aload_n 0, 1) := by decide +kernel
theorem dX9_toggle_63 : decode cX9_toggle 63 = .ok (.dup, 1) := by decide +kernel
theorem dX9_toggle_64 : decode cX9_toggle 64 = .ok (.getfield 156, 3) := by decide +kernel
theorem dX9_toggle_67 : decode cX9_toggle 67 = .ok (.iconst 1, 1) := by decide +kernel
theorem dX9_toggle_68 : decode cX9_toggle 68 = .ok (.isub, 1) := by decide +kernel
theorem dX9_toggle_69 : decode cX9_toggle 69 = .ok (.putfield 156, 3) := by decide +kernel
theorem dX9_toggle_72 : decode cX9_toggle 72 = .ok (.aload_n 0, 1) := by decide +kernel
theorem dX9_toggle_73 : decode cX9_toggle 73 = .ok (.getfield 18, 3) := by decide +kernel
theorem dX9_toggle_76 : decode cX9_toggle 76 = .ok (.iload_n 2, 1) := by decide +kernel
theorem dX9_toggle_77 : decode cX9_toggle 77 = .ok (.dup2, 1) := by decide +kernel
theorem dX9_toggle_78 : decode cX9_toggle 78 = .ok (.iaload, 1) := by decide +kernel
theorem dX9_toggle_79 : decode cX9_toggle 79 = .ok (.iconst 1, 1) := by decide +kernel
theorem dX9_toggle_80 : decode cX9_toggle 80 = .ok (.iload_n 1, 1) := by decide +kernel
theorem dX9_toggle_81 : decode cX9_toggle 81 = .ok (.ishl, 1) := by decide +kernel
theorem dX9_toggle_82 : decode cX9_toggle 82 = .ok (.ixor, 1) := by decide +kernel
theorem dX9_toggle_83 : decode cX9_toggle 83 = .ok (.iastore, 1) := by decide +kernel
theorem dX9_toggle_84 : decode cX9_toggle 84 = .ok (.aload_n 0, 1) := by decide +kernel
theorem dX9_toggle_85 : decode cX9_toggle 85 = .ok (.getfield 52, 3) := by decide +kernel
theorem dX9_toggle_88 : decode cX9_toggle 88 = .ok (.aload_n 0, 1) := by decide +kernel
theorem dX9_toggle_89 : decode cX9_toggle 89 = .ok (.getfield 156, 3) := by decide +kernel
theorem dX9_toggle_92 : decode cX9_toggle 92 = .ok (.bipush 100, 2) := by decide +kernel
theorem dX9_toggle_94 : decode cX9_toggle 94 = .ok (.iload_n 1, 1) := by decide +kernel
theorem dX9_toggle_95 : decode cX9_toggle 95 = .ok (.imul, 1) := by decide +kernel
theorem dX9_toggle_96 : decode cX9_toggle 96 = .ok (.iload_n 2, 1) := by decide +kernel
theorem dX9_toggle_97 : decode cX9_toggle 97 = .ok (.iadd, 1) := by decide +kernel
theorem dX9_toggle_98 : decode cX9_toggle 98 = .ok (.iastore, 1) := by decide +kernel
theorem dX9_toggle_99 : decode cX9_toggle 99 = .ok (.aload_n 0, 1) := by decide +kernel
theorem dX9_toggle_100 : decode cX9_toggle 100 = .ok (.getfield 55, 3) := by decide +kernel
theorem dX9_toggle_103 : decode cX9_toggle 103 = .ok (.aload_n 0, 1) := by decide +kernel
theorem dX9_toggle_104 : decode cX9_toggle 104 = .ok (.getfield 156, 3) := by decide +kernel
theorem dX9_toggle_107 : decode cX9_toggle 107 = .ok (.aload_n 0, 1) := by decide +kernel
theorem dX9_toggle_108 : decode cX9_toggle 108 = .ok (.getfield 142, 3) := by decide +kernel
theorem dX9_toggle_111 : decode cX9_toggle 111 = .ok (.iastore, 1) := by decide +kernel
theorem dX9_toggle_112 : decode cX9_toggle 112 = .ok (.aload_n 0, 1) := by decide +kernel
theorem dX9_toggle_113 : decode cX9_toggle 113 = .ok (.dup, 1) := by decide +kernel
theorem dX9_toggle_114 : decode cX9_toggle 114 = .ok (.getfield 156, 3) := by decide +kernel
theorem dX9_toggle_117 : decode cX9_toggle 117 = .ok (.iconst 1, 1) := by decide +kernel
theorem dX9_toggle_118 : decode cX9_toggle 118 = .ok (.iadd, 1) := by decide +kernel
theorem dX9_toggle_119 : decode cX9_toggle 119 = .ok (.putfield 156, 3) := by decide +kernel
theorem dX9_toggle_122 : decode cX9_toggle 122 = .ok (.aload_n 0, 1) := by decide +kernel
theorem dX9_toggle_123 : decode cX9_toggle 123 = .ok (.getfield 18, 3) := by decide +kernel
theorem dX9_toggle_126 : decode cX9_toggle 126 = .ok (.iload_n 2, 1) := by decide +kernel
theorem dX9_toggle_127 : decode cX9_toggle 127 = .ok (.iaload, 1) := by decide +kernel
theorem dX9_toggle_128 : decode cX9_toggle 128 = .ok (.iload_n 1, 1) := by decide +kernel
theorem dX9_toggle_129 : decode cX9_toggle 129 = .ok (.ishr, 1) := by decide +kernel
theorem dX9_toggle_130 : decode cX9_toggle 130 = .ok (.iconst 1, 1) := by decide +kernel
theorem dX9_toggle_131 : decode cX9_toggle 131 = .ok (.iand, 1) := by decide +kernel
theorem dX9_toggle_132 : decode cX9_toggle 132 = .ok (.ireturn, 1) := by decide +kernel
theorem dX9_undo_0 : decode cX9_undo 0 = .ok (.aload_n 0, 1) := by decide +kernel
theorem dX9_undo_1 : decode cX9_undo 1 = .ok (.getfield 156, 3) := by decide +kernel
theorem dX9_undo_4 : decode cX9_undo 4 = .ok (.ifCond .eq 21, 3) := by decide +kernel
theorem dX9_undo_7 : decode cX9_undo 7 = .ok (.aload_n 0, 1) := by decide +kernel
theorem dX9_undo_8 : decode cX9_undo 8 = .ok (.getfield 55, 3) := by decide +kernel
theorem dX9_undo_11 : decode cX9_undo 11 = .ok (.aload_n 0, 1) := by decide +kernel
theorem dX9_undo_12 : decode cX9_undo 12 = .ok (.getfield 156, 3) := by decide +kernel
theorem dX9_undo_15 : decode cX9_undo 15 = .ok (.iconst 1, 1) := by decide +kernel
theorem dX9_undo_16 : decode cX9_undo 16 = .ok (.isub, 1) := by decide +kernel
theorem dX9_undo_17 : decode cX9_undo 17 = .ok (.iaload, 1) := by decide +kernel
theorem dX9_undo_18 : decode cX9_undo 18 = .ok (.aload_n 0, 1) := by decide +kernel
theorem dX9_undo_19 : decode cX9_undo 19 = .ok (.getfield 142, 3) := by decide +kernel
theorem dX9_undo_22 : decode cX9_undo 22 = .ok (.if_icmp .eq 6, 3) := by decide +kernel
theorem dX9_undo_25 : decode cX9_undo 25 = .ok (.bipush (-3), 2) := by decide +kernel
theorem dX9_undo_27 : decode cX9_undo 27 = .ok (.ireturn, 1) := by decide +kernel
theorem dX9_undo_28 : decode cX9_undo 28 = .ok (.aload_n 0, 1) := by decide +kernel
theorem dX9_undo_29 : decode cX9_undo 29 = .ok (.dup, 1) := by decide +kernel
theorem dX9_undo_30 : decode cX9_undo 30 = .ok (.getfield 156, 3) := by decide +kernel
theorem dX9_undo_33 : decode cX9_undo 33 = .ok (.iconst 1, 1) := by decide +kernel
theorem dX9_undo_34 : decode cX9_undo 34 = .ok (.isub, 1) := by decide +kernel
theorem dX9_undo_35 : decode cX9_undo 35 = .ok (.putfield 156, 3) := by decide +kernel
theorem dX9_undo_38 : decode cX9_undo 38 = .ok (.aload_n 0, 1) := by decide +kernel
theorem dX9_undo_39 : decode cX9_undo 39 = .ok (.getfield 18, 3) := by decide +kernel
theorem dX9_undo_42 : decode cX9_undo 42 = .ok (.aload_n 0, 1) := by decide +kernel
theorem dX9_undo_43 : decode cX9_undo 43 = .ok (.getfield 52, 3) := by decide +kernel
theorem dX9_undo_46 : decode cX9_undo 46 = .ok (.aload_n 0, 1) := by decide +kernel
theorem dX9_undo_47 : decode cX9_undo 47 = .ok (.getfield 156, 3) := by decide +kernel
theorem dX9_undo_50 : decode cX9_undo 50 = .ok (.iaload, 1) := by decide +kernel
theorem dX9_undo_51 : decode cX9_undo 51 = .ok (.bipush 100, 2) := by decide +kernel
theorem dX9_undo_53 : decode cX9_undo 53 = .ok (.irem, 1) := by decide +kernel
theorem dX9_undo_54 : decode cX9_undo 54 = .ok (.dup2, 1) := by decide +kernel
theorem dX9_undo_55 : decode cX9_undo 55 = .ok (.iaload, 1) := by decide +kernel
theorem dX9_undo_56 : decode cX9_undo 56 = .ok (.iconst 1, 1) := by decide +kernel
theorem dX9_undo_57 : decode cX9_undo 57 = .ok (.aload_n 0, 1) := by decide +kernel
theorem dX9_undo_58 : decode cX9_undo 58 = .ok (.getfield 52, 3) := by decide +kernel
theorem dX9_undo_61 : decode cX9_undo 61 = .ok (.aload_n 0, 1) := by decide +kernel
theorem dX9_undo_62 : decode cX9_undo 62 = .ok (.getfield 156, 3) := by decide +kernel
theorem dX9_undo_65 : decode cX9_undo 65 = .ok (.iaload, 1) := by decide +kernel
theorem dX9_undo_66 : decode cX9_undo 66 = .ok (.bipush 100, 2) := by decide +kernel
theorem dX9_undo_68 : decode cX9_undo 68 = .ok (.idiv, 1) := by decide +kernel
theorem dX9_undo_69 : decode cX9_undo 69 = .ok (.ishl, 1) := by decide +kernel
theorem dX9_undo_70 : decode cX9_undo 70 = .ok (.ixor, 1) := by decide +kernel
theorem dX9_undo_71 : decode cX9_undo 71 = .ok (.iastore, 1) := by decide +kernel
theorem dX9_undo_72 : decode cX9_undo 72 = .ok (.aload_n 0, 1) := by decide +kernel
theorem dX9_undo_73 : decode cX9_undo 73 = .ok (.getfield 52, 3) := by decide +kernel
theorem dX9_undo_76 : decode cX9_undo 76 = .ok (.aload_n 0, 1) := by decide +kernel
theorem dX9_undo_77 : decode cX9_undo 77 = .ok (.getfield 156, 3) := by decide +kernel
theorem dX9_undo_80 : decode cX9_undo 80 = .ok (.iaload, 1) := by decide +kernel
theorem dX9_undo_81 : decode cX9_undo 81 = .ok (.ireturn, 1) := by decide +kernel
theorem dX9_cell_0 : decode cX9_cell 0 = .ok (.aload_n 0, 1) := by decide +kernel
theorem dX9_cell_1 : decode cX9_cell 1 = .ok (.iload_n 1, 1) := by decide +kernel
theorem dX9_cell_2 : decode cX9_cell 2 = .ok (.iload_n 2, 1) := by decide +kernel
theorem dX9_cell_3 : decode cX9_cell 3 = .ok (.invokevirtual 159, 3) := by decide +kernel
theorem dX9_cell_6 : decode cX9_cell 6 = .ok (.ifCond .eq 16, 3) := by decide +kernel
theorem dX9_cell_9 : decode cX9_cell 9 = .ok (.aload_n 0, 1) := by decide +kernel
theorem dX9_cell_10 : decode cX9_cell 10 = .ok (.getfield 18, 3) := by decide +kernel
theorem dX9_cell_13 : decode cX9_cell 13 = .ok (.iload_n 2, 1) := by decide +kernel
theorem dX9_cell_14 : decode cX9_cell 14 = .ok (.iaload, 1) := by decide +kernel
theorem dX9_cell_15 : decode cX9_cell 15 = .ok (.iload_n 1, 1) := by decide +kernel
theorem dX9_cell_16 : decode cX9_cell 16 = .ok (.ishr, 1) := by decide +kernel
theorem dX9_cell_17 : decode cX9_cell 17 = .ok (.iconst 1, 1) := by decide +kernel
theorem dX9_cell_18 : decode cX9_cell 18 = .ok (.iand, 1) := by decide +kernel
theorem dX9_cell_19 : decode cX9_cell 19 = .ok (.goto 4, 3) := by decide +kernel
theorem dX9_cell_22 : decode cX9_cell 22 = .ok (.iconst (-1), 1) := by decide +kernel
theorem dX9_cell_23 : decode cX9_cell 23 = .ok (.ireturn, 1) := by decide +kernel
theorem dX9_countOf_0 : decode cX9_countOf 0 = .ok (.iconst 0, 1) := by decide +kernel
theorem dX9_countOf_1 : decode cX9_countOf 1 = .ok (.istore_n 2, 1) := by decide +kernel
theorem dX9_countOf_2 : decode cX9_countOf 2 = .ok (.iconst 0, 1) := by decide +kernel
theorem dX9_countOf_3 : decode cX9_countOf 3 = .ok (.istore_n 3, 1) := by decide +kernel
theorem dX9_countOf_4 : decode cX9_countOf 4 = .ok (.iload_n 3, 1) := by decide +kernel
theorem dX9_countOf_5 : decode cX9_countOf 5 = .ok (.aload_n 0, 1) := by decide +kernel
theorem dX9_countOf_6 : decode cX9_countOf 6 = .ok (.getfield 15, 3) := by decide +kernel
theorem dX9_countOf_9 : decode cX9_countOf 9 = .ok (.if_icmp .ge 18, 3) := by decide +kernel
theorem dX9_countOf_12 : decode cX9_countOf 12 = .ok (.iload_n 2, 1) := by decide +kernel
theorem dX9_countOf_13 : decode cX9_countOf 13 = .ok (.aload_n 1, 1) := by decide +kernel
theorem dX9_countOf_14 : decode cX9_countOf 14 = .ok (.iload_n 3, 1) := by decide +kernel
theorem dX9_countOf_15 : decode cX9_countOf 15 = .ok (.iaload, 1) := by decide +kernel
theorem dX9_countOf_16 : decode cX9_countOf 16 = .ok (.invokestatic 109, 3) := by decide +kernel
theorem dX9_countOf_19 : decode cX9_countOf 19 = .ok (.iadd, 1) := by decide +kernel
theorem dX9_countOf_20 : decode cX9_countOf 20 = .ok (.istore_n 2, 1) := by decide +kernel
theorem dX9_countOf_21 : decode cX9_countOf 21 = .ok (.iinc 3 1, 3) := by decide +kernel
theorem dX9_countOf_24 : decode cX9_countOf 24 = .ok (.goto (-20), 3) := by decide +kernel
theorem dX9_countOf_27 : decode cX9_countOf 27 = .ok (.iload_n 2, 1) := by decide +kernel
theorem dX9_countOf_28 : decode cX9_countOf 28 = .ok (.ireturn, 1) := by decide +kernel
theorem dX9_changesNow_0 : decode cX9_changesNow 0 = .ok (.iconst 0, 1) := by decide +kernel
theorem dX9_changesNow_1 : decode cX9_changesNow 1 = .ok (.istore_n 1, 1) := by decide +kernel
theorem dX9_changesNow_2 : decode cX9_changesNow 2 = .ok (.iload_n 1, 1) := by decide +kernel
theorem dX9_changesNow_3 : decode cX9_changesNow 3 = .ok (.aload_n 0, 1) := by decide +kernel
theorem dX9_changesNow_4 : decode cX9_changesNow 4 = .ok (.getfield 156, 3) := by decide +kernel
theorem dX9_changesNow_7 : decode cX9_changesNow 7 = .ok (.if_icmp .ge 29, 3) := by decide +kernel
theorem dX9_changesNow_10 : decode cX9_changesNow 10 = .ok (.aload_n 0, 1) := by decide +kernel
theorem dX9_changesNow_11 : decode cX9_changesNow 11 = .ok (.getfield 55, 3) := by decide +kernel
theorem dX9_changesNow_14 : decode cX9_changesNow 14 = .ok (.aload_n 0, 1) := by decide +kernel
theorem dX9_changesNow_15 : decode cX9_changesNow 15 = .ok (.getfield 156, 3) := by decide +kernel
theorem dX9_changesNow_18 : decode cX9_changesNow 18 = .ok (.iconst 1, 1) := by decide +kernel
theorem dX9_changesNow_19 : decode cX9_changesNow 19 = .ok (.isub, 1) := by decide +kernel
theorem dX9_changesNow_20 : decode cX9_changesNow 20 = .ok (.iload_n 1, 1) := by decide +kernel
theorem dX9_changesNow_21 : decode cX9_changesNow 21 = .ok (.isub, 1) := by decide +kernel
theorem dX9_changesNow_22 : decode cX9_changesNow 22 = .ok (.iaload, 1) := by decide +kernel
theorem dX9_changesNow_23 : decode cX9_changesNow 23 = .ok (.aload_n 0, 1) := by decide +kernel
theorem dX9_changesNow_24 : decode cX9_changesNow 24 = .ok (.getfield 142, 3) := by decide +kernel
theorem dX9_changesNow_27 : decode cX9_changesNow 27 = .ok (.if_icmp .ne 9, 3) := by decide +kernel
theorem dX9_changesNow_30 : decode cX9_changesNow 30 = .ok (.iinc 1 1, 3) := by decide +kernel
theorem dX9_changesNow_33 : decode cX9_changesNow 33 = .ok (.goto (-31), 3) := by decide +kernel
theorem dX9_changesNow_36 : decode cX9_changesNow 36 = .ok (.iload_n 1, 1) := by decide +kernel
theorem dX9_changesNow_37 : decode cX9_changesNow 37 = .ok (.ireturn, 1) := by decide +kernel
theorem dX9_told_0 : decode cX9_told 0 = .ok (.iload_n 1, 1) := by decide +kernel
theorem dX9_told_1 : decode cX9_told 1 = .ok (.tableswitch 113 0 7 #[47, 52, 57, 66, 73, 82, 87, 100], 47) := by decide +kernel
theorem dX9_told_48 : decode cX9_told 48 = .ok (.aload_n 0, 1) := by decide +kernel
theorem dX9_told_49 : decode cX9_told 49 = .ok (.getfield 9, 3) := by decide +kernel
theorem dX9_told_52 : decode cX9_told 52 = .ok (.ireturn, 1) := by decide +kernel
theorem dX9_told_53 : decode cX9_told 53 = .ok (.aload_n 0, 1) := by decide +kernel
theorem dX9_told_54 : decode cX9_told 54 = .ok (.getfield 15, 3) := by decide +kernel
theorem dX9_told_57 : decode cX9_told 57 = .ok (.ireturn, 1) := by decide +kernel
theorem dX9_told_58 : decode cX9_told 58 = .ok (.aload_n 0, 1) := by decide +kernel
theorem dX9_told_59 : decode cX9_told 59 = .ok (.getfield 142, 3) := by decide +kernel
theorem dX9_told_62 : decode cX9_told 62 = .ok (.sipush 10000, 3) := by decide +kernel
theorem dX9_told_65 : decode cX9_told 65 = .ok (.iadd, 1) := by decide +kernel
theorem dX9_told_66 : decode cX9_told 66 = .ok (.ireturn, 1) := by decide +kernel
theorem dX9_told_67 : decode cX9_told 67 = .ok (.aload_n 0, 1) := by decide +kernel
theorem dX9_told_68 : decode cX9_told 68 = .ok (.getfield 142, 3) := by decide +kernel
theorem dX9_told_71 : decode cX9_told 71 = .ok (.iconst 1, 1) := by decide +kernel
theorem dX9_told_72 : decode cX9_told 72 = .ok (.iand, 1) := by decide +kernel
theorem dX9_told_73 : decode cX9_told 73 = .ok (.ireturn, 1) := by decide +kernel
theorem dX9_told_74 : decode cX9_told 74 = .ok (.aload_n 0, 1) := by decide +kernel
theorem dX9_told_75 : decode cX9_told 75 = .ok (.aload_n 0, 1) := by decide +kernel
theorem dX9_told_76 : decode cX9_told 76 = .ok (.getfield 18, 3) := by decide +kernel
theorem dX9_told_79 : decode cX9_told 79 = .ok (.invokevirtual 163, 3) := by decide +kernel
theorem dX9_told_82 : decode cX9_told 82 = .ok (.ireturn, 1) := by decide +kernel
theorem dX9_told_83 : decode cX9_told 83 = .ok (.aload_n 0, 1) := by decide +kernel
theorem dX9_told_84 : decode cX9_told 84 = .ok (.invokevirtual 167, 3) := by decide +kernel
theorem dX9_told_87 : decode cX9_told 87 = .ok (.ireturn, 1) := by decide +kernel
theorem dX9_told_88 : decode cX9_told 88 = .ok (.aload_n 0, 1) := by decide +kernel
theorem dX9_told_89 : decode cX9_told 89 = .ok (.aload_n 0, 1) := by decide +kernel
theorem dX9_told_90 : decode cX9_told 90 = .ok (.getfield 18, 3) := by decide +kernel
theorem dX9_told_93 : decode cX9_told 93 = .ok (.invokevirtual 171, 3) := by decide +kernel
theorem dX9_told_96 : decode cX9_told 96 = .ok (.aload_n 0, 1) := by decide +kernel
theorem dX9_told_97 : decode cX9_told 97 = .ok (.getfield 175, 3) := by decide +kernel
theorem dX9_told_100 : decode cX9_told 100 = .ok (.ireturn, 1) := by decide +kernel
theorem dX9_told_101 : decode cX9_told 101 = .ok (.aload_n 0, 1) := by decide +kernel
theorem dX9_told_102 : decode cX9_told 102 = .ok (.aload_n 0, 1) := by decide +kernel
theorem dX9_told_103 : decode cX9_told 103 = .ok (.getfield 18, 3) := by decide +kernel
theorem dX9_told_106 : decode cX9_told 106 = .ok (.invokevirtual 171, 3) := by decide +kernel
theorem dX9_told_109 : decode cX9_told 109 = .ok (.aload_n 0, 1) := by decide +kernel
theorem dX9_told_110 : decode cX9_told 110 = .ok (.getfield 178, 3) := by decide +kernel
theorem dX9_told_113 : decode cX9_told 113 = .ok (.ireturn, 1) := by decide +kernel
theorem dX9_told_114 : decode cX9_told 114 = .ok (.iconst (-1), 1) := by decide +kernel
theorem dX9_told_115 : decode cX9_told 115 = .ok (.ireturn, 1) := by decide +kernel
theorem dX9_steps_0 : decode cX9_steps 0 = .ok (.iload_n 1, 1) := by decide +kernel
theorem dX9_steps_1 : decode cX9_steps 1 = .ok (.i2l, 1) := by decide +kernel
theorem dX9_steps_2 : decode cX9_steps 2 = .ok (.ldc2_w 181, 3) := by decide +kernel
theorem dX9_steps_5 : decode cX9_steps 5 = .ok (.ldc2_w 183, 3) := by decide +kernel
theorem dX9_steps_8 : decode cX9_steps 8 = .ok (.invokestatic 105, 3) := by decide +kernel
theorem dX9_steps_11 : decode cX9_steps 11 = .ok (.ifCond .ne 6, 3) := by decide +kernel
theorem dX9_steps_14 : decode cX9_steps 14 = .ok (.bipush (-2), 2) := by decide +kernel
theorem dX9_steps_16 : decode cX9_steps 16 = .ok (.ireturn, 1) := by decide +kernel
theorem dX9_steps_17 : decode cX9_steps 17 = .ok (.aload_n 0, 1) := by decide +kernel
theorem dX9_steps_18 : decode cX9_steps 18 = .ok (.getfield 142, 3) := by decide +kernel
theorem dX9_steps_21 : decode cX9_steps 21 = .ok (.iload_n 1, 1) := by decide +kernel
theorem dX9_steps_22 : decode cX9_steps 22 = .ok (.iadd, 1) := by decide +kernel
theorem dX9_steps_23 : decode cX9_steps 23 = .ok (.i2l, 1) := by decide +kernel
theorem dX9_steps_24 : decode cX9_steps 24 = .ok (.ldc2_w 185, 3) := by decide +kernel
theorem dX9_steps_27 : decode cX9_steps 27 = .ok (.ldc2_w 187, 3) := by decide +kernel
theorem dX9_steps_30 : decode cX9_steps 30 = .ok (.invokestatic 105, 3) := by decide +kernel
theorem dX9_steps_33 : decode cX9_steps 33 = .ok (.ifCond .ne 6, 3) := by decide +kernel
theorem dX9_steps_36 : decode cX9_steps 36 = .ok (.bipush (-3), 2) := by decide +kernel
theorem dX9_steps_38 : decode cX9_steps 38 = .ok (.ireturn, 1) := by decide +kernel
theorem dX9_steps_39 : decode cX9_steps 39 = .ok (.aload_n 0, 1) := by decide +kernel
theorem dX9_steps_40 : decode cX9_steps 40 = .ok (.invokevirtual 189, 3) := by decide +kernel
theorem dX9_steps_43 : decode cX9_steps 43 = .ok (.aload_n 0, 1) := by decide +kernel
theorem dX9_steps_44 : decode cX9_steps 44 = .ok (.iload_n 1, 1) := by decide +kernel
theorem dX9_steps_45 : decode cX9_steps 45 = .ok (.invokevirtual 192, 3) := by decide +kernel
theorem dX9_steps_48 : decode cX9_steps 48 = .ok (.aload_n 0, 1) := by decide +kernel
theorem dX9_steps_49 : decode cX9_steps 49 = .ok (.getfield 43, 3) := by decide +kernel
theorem dX9_steps_52 : decode cX9_steps 52 = .ok (.aload_n 0, 1) := by decide +kernel
theorem dX9_steps_53 : decode cX9_steps 53 = .ok (.getfield 18, 3) := by decide +kernel
theorem dX9_steps_56 : decode cX9_steps 56 = .ok (.invokestatic 139, 3) := by decide +kernel
theorem dX9_steps_59 : decode cX9_steps 59 = .ok (.aload_n 0, 1) := by decide +kernel
theorem dX9_steps_60 : decode cX9_steps 60 = .ok (.aload_n 0, 1) := by decide +kernel
theorem dX9_steps_61 : decode cX9_steps 61 = .ok (.getfield 145, 3) := by decide +kernel
theorem dX9_steps_64 : decode cX9_steps 64 = .ok (.putfield 142, 3) := by decide +kernel
theorem dX9_steps_67 : decode cX9_steps 67 = .ok (.aload_n 0, 1) := by decide +kernel
theorem dX9_steps_68 : decode cX9_steps 68 = .ok (.getfield 142, 3) := by decide +kernel
theorem dX9_steps_71 : decode cX9_steps 71 = .ok (.sipush 10000, 3) := by decide +kernel
theorem dX9_steps_74 : decode cX9_steps 74 = .ok (.iadd, 1) := by decide +kernel
theorem dX9_steps_75 : decode cX9_steps 75 = .ok (.ireturn, 1) := by decide +kernel
theorem dX9_block_0 : decode cX9_block 0 = .ok (.aload_n 0, 1) := by decide +kernel
theorem dX9_block_1 : decode cX9_block 1 = .ok (.iload_n 1, 1) := by decide +kernel
theorem dX9_block_2 : decode cX9_block 2 = .ok (.iload_n 2, 1) := by decide +kernel
theorem dX9_block_3 : decode cX9_block 3 = .ok (.invokevirtual 159, 3) := by decide +kernel
theorem dX9_block_6 : decode cX9_block 6 = .ok (.ifCond .ne 5, 3) := by decide +kernel
theorem dX9_block_9 : decode cX9_block 9 = .ok (.iconst (-1), 1) := by decide +kernel
theorem dX9_block_10 : decode cX9_block 10 = .ok (.ireturn, 1) := by decide +kernel
theorem dX9_block_11 : decode cX9_block 11 = .ok (.aload_n 0, 1) := by decide +kernel
theorem dX9_block_12 : decode cX9_block 12 = .ok (.getfield 142, 3) := by decide +kernel
theorem dX9_block_15 : decode cX9_block 15 = .ok (.iconst 1, 1) := by decide +kernel
theorem dX9_block_16 : decode cX9_block 16 = .ok (.iand, 1) := by decide +kernel
theorem dX9_block_17 : decode cX9_block 17 = .ok (.istore_n 3, 1) := by decide +kernel
theorem dX9_block_18 : decode cX9_block 18 = .ok (.aload_n 0, 1) := by decide +kernel
theorem dX9_block_19 : decode cX9_block 19 = .ok (.aload_n 0, 1) := by decide +kernel
theorem dX9_block_20 : decode cX9_block 20 = .ok (.getfield 18, 3) := by decide +kernel
theorem dX9_block_23 : decode cX9_block 23 = .ok (.iload_n 1, 1) := by decide +kernel
theorem dX9_block_24 : decode cX9_block 24 = .ok (.iload_n 3, 1) := by decide +kernel
theorem dX9_block_25 : decode cX9_block 25 = .ok (.isub, 1) := by decide +kernel
theorem dX9_block_26 : decode cX9_block 26 = .ok (.aload_n 0, 1) := by decide +kernel
theorem dX9_block_27 : decode cX9_block 27 = .ok (.getfield 9, 3) := by decide +kernel
theorem dX9_block_30 : decode cX9_block 30 = .ok (.iadd, 1) := by decide +kernel
theorem dX9_block_31 : decode cX9_block 31 = .ok (.aload_n 0, 1) := by decide +kernel
theorem dX9_block_32 : decode cX9_block 32 = .ok (.getfield 9, 3) := by decide +kernel
theorem dX9_block_35 : decode cX9_block 35 = .ok (.irem, 1) := by decide +kernel
theorem dX9_block_36 : decode cX9_block 36 = .ok (.iconst 2, 1) := by decide +kernel
theorem dX9_block_37 : decode cX9_block 37 = .ok (.idiv, 1) := by decide +kernel
theorem dX9_block_38 : decode cX9_block 38 = .ok (.iconst 2, 1) := by decide +kernel
theorem dX9_block_39 : decode cX9_block 39 = .ok (.imul, 1) := by decide +kernel
theorem dX9_block_40 : decode cX9_block 40 = .ok (.iload_n 3, 1) := by decide +kernel
theorem dX9_block_41 : decode cX9_block 41 = .ok (.iadd, 1) := by decide +kernel
theorem dX9_block_42 : decode cX9_block 42 = .ok (.iload_n 2, 1) := by decide +kernel
theorem dX9_block_43 : decode cX9_block 43 = .ok (.iload_n 3, 1) := by decide +kernel
theorem dX9_block_44 : decode cX9_block 44 = .ok (.isub, 1) := by decide +kernel
theorem dX9_block_45 : decode cX9_block 45 = .ok (.aload_n 0, 1) := by decide +kernel
theorem dX9_block_46 : decode cX9_block 46 = .ok (.getfield 15, 3) := by decide +kernel
theorem dX9_block_49 : decode cX9_block 49 = .ok (.iadd, 1) := by decide +kernel
theorem dX9_block_50 : decode cX9_block 50 = .ok (.aload_n 0, 1) := by decide +kernel
theorem dX9_block_51 : decode cX9_block 51 = .ok (.getfield 15, 3) := by decide +kernel
theorem dX9_block_54 : decode cX9_block 54 = .ok (.irem, 1) := by decide +kernel
theorem dX9_block_55 : decode cX9_block 55 = .ok (.iconst 2, 1) := by decide +kernel
theorem dX9_block_56 : decode cX9_block 56 = .ok (.idiv, 1) := by decide +kernel
theorem dX9_block_57 : decode cX9_block 57 = .ok (.iconst 2, 1) := by decide +kernel
theorem dX9_block_58 : decode cX9_block 58 = .ok (.imul, 1) := by decide +kernel
theorem dX9_block_59 : decode cX9_block 59 = .ok (.iload_n 3, 1) := by decide +kernel
theorem dX9_block_60 : decode cX9_block 60 = .ok (.iadd, 1) := by decide +kernel
theorem dX9_block_61 : decode cX9_block 61 = .ok (.invokevirtual 131, 3) := by decide +kernel
theorem dX9_block_64 : decode cX9_block 64 = .ok (.ireturn, 1) := by decide +kernel
theorem dX9_then_0 : decode cX9_then 0 = .ok (.aload_n 0, 1) := by decide +kernel
theorem dX9_then_1 : decode cX9_then 1 = .ok (.iload_n 1, 1) := by decide +kernel
theorem dX9_then_2 : decode cX9_then 2 = .ok (.iload_n 2, 1) := by decide +kernel
theorem dX9_then_3 : decode cX9_then 3 = .ok (.invokevirtual 159, 3) := by decide +kernel
theorem dX9_then_6 : decode cX9_then 6 = .ok (.ifCond .ne 5, 3) := by decide +kernel
theorem dX9_then_9 : decode cX9_then 9 = .ok (.iconst (-1), 1) := by decide +kernel
theorem dX9_then_10 : decode cX9_then 10 = .ok (.ireturn, 1) := by decide +kernel
theorem dX9_then_11 : decode cX9_then 11 = .ok (.iload_n 3, 1) := by decide +kernel
theorem dX9_then_12 : decode cX9_then 12 = .ok (.i2l, 1) := by decide +kernel
theorem dX9_then_13 : decode cX9_then 13 = .ok (.ldc2_w 196, 3) := by decide +kernel
theorem dX9_then_16 : decode cX9_then 16 = .ok (.ldc2_w 198, 3) := by decide +kernel
theorem dX9_then_19 : decode cX9_then 19 = .ok (.invokestatic 105, 3) := by decide +kernel
theorem dX9_then_22 : decode cX9_then 22 = .ok (.ifCond .ne 6, 3) := by decide +kernel
theorem dX9_then_25 : decode cX9_then 25 = .ok (.bipush (-2), 2) := by decide +kernel
theorem dX9_then_27 : decode cX9_then 27 = .ok (.ireturn, 1) := by decide +kernel
theorem dX9_then_28 : decode cX9_then 28 = .ok (.aload_n 0, 1) := by decide +kernel
theorem dX9_then_29 : decode cX9_then 29 = .ok (.invokevirtual 189, 3) := by decide +kernel
theorem dX9_then_32 : decode cX9_then 32 = .ok (.aload_n 0, 1) := by decide +kernel
theorem dX9_then_33 : decode cX9_then 33 = .ok (.iload_n 3, 1) := by decide +kernel
theorem dX9_then_34 : decode cX9_then 34 = .ok (.invokevirtual 192, 3) := by decide +kernel
theorem dX9_then_37 : decode cX9_then 37 = .ok (.aload_n 0, 1) := by decide +kernel
theorem dX9_then_38 : decode cX9_then 38 = .ok (.getfield 43, 3) := by decide +kernel
theorem dX9_then_41 : decode cX9_then 41 = .ok (.iload_n 2, 1) := by decide +kernel
theorem dX9_then_42 : decode cX9_then 42 = .ok (.iaload, 1) := by decide +kernel
theorem dX9_then_43 : decode cX9_then 43 = .ok (.iload_n 1, 1) := by decide +kernel
theorem dX9_then_44 : decode cX9_then 44 = .ok (.ishr, 1) := by decide +kernel
theorem dX9_then_45 : decode cX9_then 45 = .ok (.iconst 1, 1) := by decide +kernel
theorem dX9_then_46 : decode cX9_then 46 = .ok (.iand, 1) := by decide +kernel
theorem dX9_then_47 : decode cX9_then 47 = .ok (.ireturn, 1) := by decide +kernel
theorem dX9_isWeight_0 : decode cX9_isWeight 0 = .ok (.iload_n 0, 1) := by decide +kernel
theorem dX9_isWeight_1 : decode cX9_isWeight 1 = .ok (.i2l, 1) := by decide +kernel
theorem dX9_isWeight_2 : decode cX9_isWeight 2 = .ok (.ldc2_w 200, 3) := by decide +kernel
theorem dX9_isWeight_5 : decode cX9_isWeight 5 = .ok (.ldc2_w 202, 3) := by decide +kernel
theorem dX9_isWeight_8 : decode cX9_isWeight 8 = .ok (.invokestatic 105, 3) := by decide +kernel
theorem dX9_isWeight_11 : decode cX9_isWeight 11 = .ok (.ireturn, 1) := by decide +kernel
theorem dX9_areWeights_0 : decode cX9_areWeights 0 = .ok (.iload_n 0, 1) := by decide +kernel
theorem dX9_areWeights_1 : decode cX9_areWeights 1 = .ok (.invokestatic 204, 3) := by decide +kernel
theorem dX9_areWeights_4 : decode cX9_areWeights 4 = .ok (.ifCond .eq 28, 3) := by decide +kernel
theorem dX9_areWeights_7 : decode cX9_areWeights 7 = .ok (.iload_n 1, 1) := by decide +kernel
theorem dX9_areWeights_8 : decode cX9_areWeights 8 = .ok (.invokestatic 204, 3) := by decide +kernel
theorem dX9_areWeights_11 : decode cX9_areWeights 11 = .ok (.ifCond .eq 21, 3) := by decide +kernel
theorem dX9_areWeights_14 : decode cX9_areWeights 14 = .ok (.iload_n 2, 1) := by decide +kernel
theorem dX9_areWeights_15 : decode cX9_areWeights 15 = .ok (.invokestatic 204, 3) := by decide +kernel
theorem dX9_areWeights_18 : decode cX9_areWeights 18 = .ok (.ifCond .eq 14, 3) := by decide +kernel
theorem dX9_areWeights_21 : decode cX9_areWeights 21 = .ok (.iload_n 3, 1) := by decide +kernel
theorem dX9_areWeights_22 : decode cX9_areWeights 22 = .ok (.invokestatic 204, 3) := by decide +kernel
theorem dX9_areWeights_25 : decode cX9_areWeights 25 = .ok (.ifCond .eq 7, 3) := by decide +kernel
theorem dX9_areWeights_28 : decode cX9_areWeights 28 = .ok (.iconst 1, 1) := by decide +kernel
theorem dX9_areWeights_29 : decode cX9_areWeights 29 = .ok (.goto 4, 3) := by decide +kernel
theorem dX9_areWeights_32 : decode cX9_areWeights 32 = .ok (.iconst 0, 1) := by decide +kernel
theorem dX9_areWeights_33 : decode cX9_areWeights 33 = .ok (.ireturn, 1) := by decide +kernel
theorem dX9_sum_0 : decode cX9_sum 0 = .ok (.iload_n 1, 1) := by decide +kernel
theorem dX9_sum_1 : decode cX9_sum 1 = .ok (.iload_n 2, 1) := by decide +kernel
theorem dX9_sum_2 : decode cX9_sum 2 = .ok (.iload_n 3, 1) := by decide +kernel
theorem dX9_sum_3 : decode cX9_sum 3 = .ok (.iload 4, 2) := by decide +kernel
theorem dX9_sum_5 : decode cX9_sum 5 = .ok (.invokestatic 208, 3) := by decide +kernel
theorem dX9_sum_8 : decode cX9_sum 8 = .ok (.ifCond .ne 6, 3) := by decide +kernel
theorem dX9_sum_11 : decode cX9_sum 11 = .ok (.bipush (-2), 2) := by decide +kernel
theorem dX9_sum_13 : decode cX9_sum 13 = .ok (.ireturn, 1) := by decide +kernel
theorem dX9_sum_14 : decode cX9_sum 14 = .ok (.ldc 212, 2) := by decide +kernel
theorem dX9_sum_16 : decode cX9_sum 16 = .ok (.istore 5, 2) := by decide +kernel
theorem dX9_sum_18 : decode cX9_sum 18 = .ok (.iconst 0, 1) := by decide +kernel
theorem dX9_sum_19 : decode cX9_sum 19 = .ok (.istore 6, 2) := by decide +kernel
theorem dX9_sum_21 : decode cX9_sum 21 = .ok (.iload 6, 2) := by decide +kernel
theorem dX9_sum_23 : decode cX9_sum 23 = .ok (.aload_n 0, 1) := by decide +kernel
theorem dX9_sum_24 : decode cX9_sum 24 = .ok (.getfield 15, 3) := by decide +kernel
theorem dX9_sum_27 : decode cX9_sum 27 = .ok (.if_icmp .ge 83, 3) := by decide +kernel
theorem dX9_sum_30 : decode cX9_sum 30 = .ok (.iconst 0, 1) := by decide +kernel
theorem dX9_sum_31 : decode cX9_sum 31 = .ok (.istore 7, 2) := by decide +kernel
theorem dX9_sum_33 : decode cX9_sum 33 = .ok (.iload 7, 2) := by decide +kernel
theorem dX9_sum_35 : decode cX9_sum 35 = .ok (.aload_n 0, 1) := by decide +kernel
theorem dX9_sum_36 : decode cX9_sum 36 = .ok (.getfield 9, 3) := by decide +kernel
theorem dX9_sum_39 : decode cX9_sum 39 = .ok (.if_icmp .ge 65, 3) := by decide +kernel
theorem dX9_sum_42 : decode cX9_sum 42 = .ok (.aload_n 0, 1) := by decide +kernel
theorem dX9_sum_43 : decode cX9_sum 43 = .ok (.getfield 18, 3) := by decide +kernel
theorem dX9_sum_46 : decode cX9_sum 46 = .ok (.iload 6, 2) := by decide +kernel
theorem dX9_sum_48 : decode cX9_sum 48 = .ok (.iaload, 1) := by decide +kernel
theorem dX9_sum_49 : decode cX9_sum 49 = .ok (.iload 7, 2) := by decide +kernel
theorem dX9_sum_51 : decode cX9_sum 51 = .ok (.ishr, 1) := by decide +kernel
theorem dX9_sum_52 : decode cX9_sum 52 = .ok (.iconst 1, 1) := by decide +kernel
theorem dX9_sum_53 : decode cX9_sum 53 = .ok (.iand, 1) := by decide +kernel
theorem dX9_sum_54 : decode cX9_sum 54 = .ok (.iconst 1, 1) := by decide +kernel
theorem dX9_sum_55 : decode cX9_sum 55 = .ok (.if_icmp .ne 43, 3) := by decide +kernel
theorem dX9_sum_58 : decode cX9_sum 58 = .ok (.iload 5, 2) := by decide +kernel
theorem dX9_sum_60 : decode cX9_sum 60 = .ok (.iload 6, 2) := by decide +kernel
theorem dX9_sum_62 : decode cX9_sum 62 = .ok (.iconst 2, 1) := by decide +kernel
theorem dX9_sum_63 : decode cX9_sum 63 = .ok (.irem, 1) := by decide +kernel
theorem dX9_sum_64 : decode cX9_sum 64 = .ok (.ifCond .ne 18, 3) := by decide +kernel
theorem dX9_sum_67 : decode cX9_sum 67 = .ok (.iload 7, 2) := by decide +kernel
theorem dX9_sum_69 : decode cX9_sum 69 = .ok (.iconst 2, 1) := by decide +kernel
theorem dX9_sum_70 : decode cX9_sum 70 = .ok (.irem, 1) := by decide +kernel
theorem dX9_sum_71 : decode cX9_sum 71 = .ok (.ifCond .ne 7, 3) := by decide +kernel
theorem dX9_sum_74 : decode cX9_sum 74 = .ok (.iload_n 1, 1) := by decide +kernel
theorem dX9_sum_75 : decode cX9_sum 75 = .ok (.goto 20, 3) := by decide +kernel
theorem dX9_sum_78 : decode cX9_sum 78 = .ok (.iload_n 2, 1) := by decide +kernel
theorem dX9_sum_79 : decode cX9_sum 79 = .ok (.goto 16, 3) := by decide +kernel
theorem dX9_sum_82 : decode cX9_sum 82 = .ok (.iload 7, 2) := by decide +kernel
theorem dX9_sum_84 : decode cX9_sum 84 = .ok (.iconst 2, 1) := by decide +kernel
theorem dX9_sum_85 : decode cX9_sum 85 = .ok (.irem, 1) := by decide +kernel
theorem dX9_sum_86 : decode cX9_sum 86 = .ok (.ifCond .ne 7, 3) := by decide +kernel
theorem dX9_sum_89 : decode cX9_sum 89 = .ok (.iload_n 3, 1) := by decide +kernel
theorem dX9_sum_90 : decode cX9_sum 90 = .ok (.goto 5, 3) := by decide +kernel
theorem dX9_sum_93 : decode cX9_sum 93 = .ok (.iload 4, 2) := by decide +kernel
theorem dX9_sum_95 : decode cX9_sum 95 = .ok (.iadd, 1) := by decide +kernel
theorem dX9_sum_96 : decode cX9_sum 96 = .ok (.istore 5, 2) := by decide +kernel
theorem dX9_sum_98 : decode cX9_sum 98 = .ok (.iinc 7 1, 3) := by decide +kernel
theorem dX9_sum_101 : decode cX9_sum 101 = .ok (.goto (-68), 3) := by decide +kernel
theorem dX9_sum_104 : decode cX9_sum 104 = .ok (.iinc 6 1, 3) := by decide +kernel
theorem dX9_sum_107 : decode cX9_sum 107 = .ok (.goto (-86), 3) := by decide +kernel
theorem dX9_sum_110 : decode cX9_sum 110 = .ok (.iload 5, 2) := by decide +kernel
theorem dX9_sum_112 : decode cX9_sum 112 = .ok (.ireturn, 1) := by decide +kernel
theorem dX9_stateSum_0 : decode cX9_stateSum 0 = .ok (.iload_n 0, 1) := by decide +kernel
theorem dX9_stateSum_1 : decode cX9_stateSum 1 = .ok (.iconst 1, 1) := by decide +kernel
theorem dX9_stateSum_2 : decode cX9_stateSum 2 = .ok (.iand, 1) := by decide +kernel
theorem dX9_stateSum_3 : decode cX9_stateSum 3 = .ok (.iload_n 1, 1) := by decide +kernel
theorem dX9_stateSum_4 : decode cX9_stateSum 4 = .ok (.imul, 1) := by decide +kernel
theorem dX9_stateSum_5 : decode cX9_stateSum 5 = .ok (.iload_n 0, 1) := by decide +kernel
theorem dX9_stateSum_6 : decode cX9_stateSum 6 = .ok (.iconst 1, 1) := by decide +kernel
theorem dX9_stateSum_7 : decode cX9_stateSum 7 = .ok (.ishr, 1) := by decide +kernel
theorem dX9_stateSum_8 : decode cX9_stateSum 8 = .ok (.iconst 1, 1) := by decide +kernel
theorem dX9_stateSum_9 : decode cX9_stateSum 9 = .ok (.iand, 1) := by decide +kernel
theorem dX9_stateSum_10 : decode cX9_stateSum 10 = .ok (.iload_n 2, 1) := by decide +kernel
theorem dX9_stateSum_11 : decode cX9_stateSum 11 = .ok (.imul, 1) := by decide +kernel
theorem dX9_stateSum_12 : decode cX9_stateSum 12 = .ok (.iadd, 1) := by decide +kernel
theorem dX9_stateSum_13 : decode cX9_stateSum 13 = .ok (.iload_n 0, 1) := by decide +kernel
theorem dX9_stateSum_14 : decode cX9_stateSum 14 = .ok (.iconst 2, 1) := by decide +kernel
theorem dX9_stateSum_15 : decode cX9_stateSum 15 = .ok (.ishr, 1) := by decide +kernel
theorem dX9_stateSum_16 : decode cX9_stateSum 16 = .ok (.iconst 1, 1) := by decide +kernel
theorem dX9_stateSum_17 : decode cX9_stateSum 17 = .ok (.iand, 1) := by decide +kernel
theorem dX9_stateSum_18 : decode cX9_stateSum 18 = .ok (.iload_n 3, 1) := by decide +kernel
theorem dX9_stateSum_19 : decode cX9_stateSum 19 = .ok (.imul, 1) := by decide +kernel
theorem dX9_stateSum_20 : decode cX9_stateSum 20 = .ok (.iadd, 1) := by decide +kernel
theorem dX9_stateSum_21 : decode cX9_stateSum 21 = .ok (.iload_n 0, 1) := by decide +kernel
theorem dX9_stateSum_22 : decode cX9_stateSum 22 = .ok (.iconst 3, 1) := by decide +kernel
theorem dX9_stateSum_23 : decode cX9_stateSum 23 = .ok (.ishr, 1) := by decide +kernel
theorem dX9_stateSum_24 : decode cX9_stateSum 24 = .ok (.iconst 1, 1) := by decide +kernel
theorem dX9_stateSum_25 : decode cX9_stateSum 25 = .ok (.iand, 1) := by decide +kernel
theorem dX9_stateSum_26 : decode cX9_stateSum 26 = .ok (.iload 4, 2) := by decide +kernel
theorem dX9_stateSum_28 : decode cX9_stateSum 28 = .ok (.imul, 1) := by decide +kernel
theorem dX9_stateSum_29 : decode cX9_stateSum 29 = .ok (.iadd, 1) := by decide +kernel
theorem dX9_stateSum_30 : decode cX9_stateSum 30 = .ok (.ireturn, 1) := by decide +kernel
theorem dX9_kept_0 : decode cX9_kept 0 = .ok (.iload_n 1, 1) := by decide +kernel
theorem dX9_kept_1 : decode cX9_kept 1 = .ok (.iload_n 2, 1) := by decide +kernel
theorem dX9_kept_2 : decode cX9_kept 2 = .ok (.iload_n 3, 1) := by decide +kernel
theorem dX9_kept_3 : decode cX9_kept 3 = .ok (.iload 4, 2) := by decide +kernel
theorem dX9_kept_5 : decode cX9_kept 5 = .ok (.invokestatic 208, 3) := by decide +kernel
theorem dX9_kept_8 : decode cX9_kept 8 = .ok (.ifCond .ne 6, 3) := by decide +kernel
theorem dX9_kept_11 : decode cX9_kept 11 = .ok (.bipush (-2), 2) := by decide +kernel
theorem dX9_kept_13 : decode cX9_kept 13 = .ok (.ireturn, 1) := by decide +kernel
theorem dX9_kept_14 : decode cX9_kept 14 = .ok (.iconst 0, 1) := by decide +kernel
theorem dX9_kept_15 : decode cX9_kept 15 = .ok (.istore 5, 2) := by decide +kernel
theorem dX9_kept_17 : decode cX9_kept 17 = .ok (.iload 5, 2) := by decide +kernel
theorem dX9_kept_19 : decode cX9_kept 19 = .ok (.bipush 16, 2) := by decide +kernel
theorem dX9_kept_21 : decode cX9_kept 21 = .ok (.if_icmp .ge 67, 3) := by decide +kernel
theorem dX9_kept_24 : decode cX9_kept 24 = .ok (.iload 5, 2) := by decide +kernel
theorem dX9_kept_26 : decode cX9_kept 26 = .ok (.iload_n 1, 1) := by decide +kernel
theorem dX9_kept_27 : decode cX9_kept 27 = .ok (.iload_n 2, 1) := by decide +kernel
theorem dX9_kept_28 : decode cX9_kept 28 = .ok (.iload_n 3, 1) := by decide +kernel
theorem dX9_kept_29 : decode cX9_kept 29 = .ok (.iload 4, 2) := by decide +kernel
theorem dX9_kept_31 : decode cX9_kept 31 = .ok (.invokestatic 213, 3) := by decide +kernel
theorem dX9_kept_34 : decode cX9_kept 34 = .ok (.aload_n 0, 1) := by decide +kernel
theorem dX9_kept_35 : decode cX9_kept 35 = .ok (.getfield 22, 3) := by decide +kernel
theorem dX9_kept_38 : decode cX9_kept 38 = .ok (.iload 5, 2) := by decide +kernel
theorem dX9_kept_40 : decode cX9_kept 40 = .ok (.iaload, 1) := by decide +kernel
theorem dX9_kept_41 : decode cX9_kept 41 = .ok (.iload_n 1, 1) := by decide +kernel
theorem dX9_kept_42 : decode cX9_kept 42 = .ok (.iload_n 2, 1) := by decide +kernel
theorem dX9_kept_43 : decode cX9_kept 43 = .ok (.iload_n 3, 1) := by decide +kernel
theorem dX9_kept_44 : decode cX9_kept 44 = .ok (.iload 4, 2) := by decide +kernel
theorem dX9_kept_46 : decode cX9_kept 46 = .ok (.invokestatic 213, 3) := by decide +kernel
theorem dX9_kept_49 : decode cX9_kept 49 = .ok (.if_icmp .ne 31, 3) := by decide +kernel
theorem dX9_kept_52 : decode cX9_kept 52 = .ok (.iload 5, 2) := by decide +kernel
theorem dX9_kept_54 : decode cX9_kept 54 = .ok (.iload 4, 2) := by decide +kernel
theorem dX9_kept_56 : decode cX9_kept 56 = .ok (.iload_n 3, 1) := by decide +kernel
theorem dX9_kept_57 : decode cX9_kept 57 = .ok (.iload_n 2, 1) := by decide +kernel
theorem dX9_kept_58 : decode cX9_kept 58 = .ok (.iload_n 1, 1) := by decide +kernel
theorem dX9_kept_59 : decode cX9_kept 59 = .ok (.invokestatic 213, 3) := by decide +kernel
theorem dX9_kept_62 : decode cX9_kept 62 = .ok (.aload_n 0, 1) := by decide +kernel
theorem dX9_kept_63 : decode cX9_kept 63 = .ok (.getfield 22, 3) := by decide +kernel
theorem dX9_kept_66 : decode cX9_kept 66 = .ok (.iload 5, 2) := by decide +kernel
theorem dX9_kept_68 : decode cX9_kept 68 = .ok (.iaload, 1) := by decide +kernel
theorem dX9_kept_69 : decode cX9_kept 69 = .ok (.iload 4, 2) := by decide +kernel
theorem dX9_kept_71 : decode cX9_kept 71 = .ok (.iload_n 3, 1) := by decide +kernel
theorem dX9_kept_72 : decode cX9_kept 72 = .ok (.iload_n 2, 1) := by decide +kernel
theorem dX9_kept_73 : decode cX9_kept 73 = .ok (.iload_n 1, 1) := by decide +kernel
theorem dX9_kept_74 : decode cX9_kept 74 = .ok (.invokestatic 213, 3) := by decide +kernel
theorem dX9_kept_77 : decode cX9_kept 77 = .ok (.if_icmp .eq 5, 3) := by decide +kernel
theorem dX9_kept_80 : decode cX9_kept 80 = .ok (.iconst 0, 1) := by decide +kernel
theorem dX9_kept_81 : decode cX9_kept 81 = .ok (.ireturn, 1) := by decide +kernel
theorem dX9_kept_82 : decode cX9_kept 82 = .ok (.iinc 5 1, 3) := by decide +kernel
theorem dX9_kept_85 : decode cX9_kept 85 = .ok (.goto (-68), 3) := by decide +kernel
theorem dX9_kept_88 : decode cX9_kept 88 = .ok (.iconst 1, 1) := by decide +kernel
theorem dX9_kept_89 : decode cX9_kept 89 = .ok (.ireturn, 1) := by decide +kernel
theorem dX9_isShifted_0 : decode cX9_isShifted 0 = .ok (.iconst 0, 1) := by decide +kernel
theorem dX9_isShifted_1 : decode cX9_isShifted 1 = .ok (.istore_n 3, 1) := by decide +kernel
theorem dX9_isShifted_2 : decode cX9_isShifted 2 = .ok (.iload_n 3, 1) := by decide +kernel
theorem dX9_isShifted_3 : decode cX9_isShifted 3 = .ok (.aload_n 0, 1) := by decide +kernel
theorem dX9_isShifted_4 : decode cX9_isShifted 4 = .ok (.getfield 15, 3) := by decide +kernel
theorem dX9_isShifted_7 : decode cX9_isShifted 7 = .ok (.if_icmp .ge 72, 3) := by decide +kernel
theorem dX9_isShifted_10 : decode cX9_isShifted 10 = .ok (.aload_n 0, 1) := by decide +kernel
theorem dX9_isShifted_11 : decode cX9_isShifted 11 = .ok (.getfield 43, 3) := by decide +kernel
theorem dX9_isShifted_14 : decode cX9_isShifted 14 = .ok (.iload_n 3, 1) := by decide +kernel
theorem dX9_isShifted_15 : decode cX9_isShifted 15 = .ok (.iload_n 2, 1) := by decide +kernel
theorem dX9_isShifted_16 : decode cX9_isShifted 16 = .ok (.iadd, 1) := by decide +kernel
theorem dX9_isShifted_17 : decode cX9_isShifted 17 = .ok (.aload_n 0, 1) := by decide +kernel
theorem dX9_isShifted_18 : decode cX9_isShifted 18 = .ok (.getfield 15, 3) := by decide +kernel
theorem dX9_isShifted_21 : decode cX9_isShifted 21 = .ok (.irem, 1) := by decide +kernel
theorem dX9_isShifted_22 : decode cX9_isShifted 22 = .ok (.iaload, 1) := by decide +kernel
theorem dX9_isShifted_23 : decode cX9_isShifted 23 = .ok (.istore 4, 2) := by decide +kernel
theorem dX9_isShifted_25 : decode cX9_isShifted 25 = .ok (.iconst 0, 1) := by decide +kernel
theorem dX9_isShifted_26 : decode cX9_isShifted 26 = .ok (.istore 5, 2) := by decide +kernel
theorem dX9_isShifted_28 : decode cX9_isShifted 28 = .ok (.iload 5, 2) := by decide +kernel
theorem dX9_isShifted_30 : decode cX9_isShifted 30 = .ok (.aload_n 0, 1) := by decide +kernel
theorem dX9_isShifted_31 : decode cX9_isShifted 31 = .ok (.getfield 9, 3) := by decide +kernel
theorem dX9_isShifted_34 : decode cX9_isShifted 34 = .ok (.if_icmp .ge 39, 3) := by decide +kernel
theorem dX9_isShifted_37 : decode cX9_isShifted 37 = .ok (.aload_n 0, 1) := by decide +kernel
theorem dX9_isShifted_38 : decode cX9_isShifted 38 = .ok (.getfield 18, 3) := by decide +kernel
theorem dX9_isShifted_41 : decode cX9_isShifted 41 = .ok (.iload_n 3, 1) := by decide +kernel
theorem dX9_isShifted_42 : decode cX9_isShifted 42 = .ok (.iaload, 1) := by decide +kernel
theorem dX9_isShifted_43 : decode cX9_isShifted 43 = .ok (.iload 5, 2) := by decide +kernel
theorem dX9_isShifted_45 : decode cX9_isShifted 45 = .ok (.ishr, 1) := by decide +kernel
theorem dX9_isShifted_46 : decode cX9_isShifted 46 = .ok (.iconst 1, 1) := by decide +kernel
theorem dX9_isShifted_47 : decode cX9_isShifted 47 = .ok (.iand, 1) := by decide +kernel
theorem dX9_isShifted_48 : decode cX9_isShifted 48 = .ok (.iload 4, 2) := by decide +kernel
theorem dX9_isShifted_50 : decode cX9_isShifted 50 = .ok (.iload 5, 2) := by decide +kernel
theorem dX9_isShifted_52 : decode cX9_isShifted 52 = .ok (.iload_n 1, 1) := by decide +kernel
theorem dX9_isShifted_53 : decode cX9_isShifted 53 = .ok (.iadd, 1) := by decide +kernel
theorem dX9_isShifted_54 : decode cX9_isShifted 54 = .ok (.aload_n 0, 1) := by decide +kernel
theorem dX9_isShifted_55 : decode cX9_isShifted 55 = .ok (.getfield 9, 3) := by decide +kernel
theorem dX9_isShifted_58 : decode cX9_isShifted 58 = .ok (.irem, 1) := by decide +kernel
theorem dX9_isShifted_59 : decode cX9_isShifted 59 = .ok (.ishr, 1) := by decide +kernel
theorem dX9_isShifted_60 : decode cX9_isShifted 60 = .ok (.iconst 1, 1) := by decide +kernel
theorem dX9_isShifted_61 : decode cX9_isShifted 61 = .ok (.iand, 1) := by decide +kernel
theorem dX9_isShifted_62 : decode cX9_isShifted 62 = .ok (.if_icmp .eq 5, 3) := by decide +kernel
theorem dX9_isShifted_65 : decode cX9_isShifted 65 = .ok (.iconst 0, 1) := by decide +kernel
theorem dX9_isShifted_66 : decode cX9_isShifted 66 = .ok (.ireturn, 1) := by decide +kernel
theorem dX9_isShifted_67 : decode cX9_isShifted 67 = .ok (.iinc 5 1, 3) := by decide +kernel
theorem dX9_isShifted_70 : decode cX9_isShifted 70 = .ok (.goto (-42), 3) := by decide +kernel
theorem dX9_isShifted_73 : decode cX9_isShifted 73 = .ok (.iinc 3 1, 3) := by decide +kernel
theorem dX9_isShifted_76 : decode cX9_isShifted 76 = .ok (.goto (-74), 3) := by decide +kernel
theorem dX9_isShifted_79 : decode cX9_isShifted 79 = .ok (.iconst 1, 1) := by decide +kernel
theorem dX9_isShifted_80 : decode cX9_isShifted 80 = .ok (.ireturn, 1) := by decide +kernel
theorem dX9_again_0 : decode cX9_again 0 = .ok (.aload_n 0, 1) := by decide +kernel
theorem dX9_again_1 : decode cX9_again 1 = .ok (.invokevirtual 189, 3) := by decide +kernel
theorem dX9_again_4 : decode cX9_again 4 = .ok (.iconst 2, 1) := by decide +kernel
theorem dX9_again_5 : decode cX9_again 5 = .ok (.istore_n 1, 1) := by decide +kernel
theorem dX9_again_6 : decode cX9_again 6 = .ok (.iload_n 1, 1) := by decide +kernel
theorem dX9_again_7 : decode cX9_again 7 = .ok (.sipush 128, 3) := by decide +kernel
theorem dX9_again_10 : decode cX9_again 10 = .ok (.if_icmp .gt 25, 3) := by decide +kernel
theorem dX9_again_13 : decode cX9_again 13 = .ok (.aload_n 0, 1) := by decide +kernel
theorem dX9_again_14 : decode cX9_again 14 = .ok (.iconst 2, 1) := by decide +kernel
theorem dX9_again_15 : decode cX9_again 15 = .ok (.invokevirtual 192, 3) := by decide +kernel
theorem dX9_again_18 : decode cX9_again 18 = .ok (.aload_n 0, 1) := by decide +kernel
theorem dX9_again_19 : decode cX9_again 19 = .ok (.iconst 0, 1) := by decide +kernel
theorem dX9_again_20 : decode cX9_again 20 = .ok (.iconst 0, 1) := by decide +kernel
theorem dX9_again_21 : decode cX9_again 21 = .ok (.invokevirtual 217, 3) := by decide +kernel
theorem dX9_again_24 : decode cX9_again 24 = .ok (.ifCond .eq 5, 3) := by decide +kernel
theorem dX9_again_27 : decode cX9_again 27 = .ok (.iload_n 1, 1) := by decide +kernel
theorem dX9_again_28 : decode cX9_again 28 = .ok (.ireturn, 1) := by decide +kernel
theorem dX9_again_29 : decode cX9_again 29 = .ok (.iinc 1 2, 3) := by decide +kernel
theorem dX9_again_32 : decode cX9_again 32 = .ok (.goto (-26), 3) := by decide +kernel
theorem dX9_again_35 : decode cX9_again 35 = .ok (.bipush (-5), 2) := by decide +kernel
theorem dX9_again_37 : decode cX9_again 37 = .ok (.ireturn, 1) := by decide +kernel
theorem dX9_shift_0 : decode cX9_shift 0 = .ok (.iconst 0, 1) := by decide +kernel
theorem dX9_shift_1 : decode cX9_shift 1 = .ok (.istore_n 1, 1) := by decide +kernel
theorem dX9_shift_2 : decode cX9_shift 2 = .ok (.iload_n 1, 1) := by decide +kernel
theorem dX9_shift_3 : decode cX9_shift 3 = .ok (.aload_n 0, 1) := by decide +kernel
theorem dX9_shift_4 : decode cX9_shift 4 = .ok (.getfield 15, 3) := by decide +kernel
theorem dX9_shift_7 : decode cX9_shift 7 = .ok (.if_icmp .ge 49, 3) := by decide +kernel
theorem dX9_shift_10 : decode cX9_shift 10 = .ok (.iload_n 1, 1) := by decide +kernel
theorem dX9_shift_11 : decode cX9_shift 11 = .ok (.ifCond .ne 7, 3) := by decide +kernel
theorem dX9_shift_14 : decode cX9_shift 14 = .ok (.iconst 2, 1) := by decide +kernel
theorem dX9_shift_15 : decode cX9_shift 15 = .ok (.goto 4, 3) := by decide +kernel
theorem dX9_shift_18 : decode cX9_shift 18 = .ok (.iconst 0, 1) := by decide +kernel
theorem dX9_shift_19 : decode cX9_shift 19 = .ok (.istore_n 2, 1) := by decide +kernel
theorem dX9_shift_20 : decode cX9_shift 20 = .ok (.iload_n 2, 1) := by decide +kernel
theorem dX9_shift_21 : decode cX9_shift 21 = .ok (.aload_n 0, 1) := by decide +kernel
theorem dX9_shift_22 : decode cX9_shift 22 = .ok (.getfield 9, 3) := by decide +kernel
theorem dX9_shift_25 : decode cX9_shift 25 = .ok (.if_icmp .ge 25, 3) := by decide +kernel
theorem dX9_shift_28 : decode cX9_shift 28 = .ok (.aload_n 0, 1) := by decide +kernel
theorem dX9_shift_29 : decode cX9_shift 29 = .ok (.iload_n 2, 1) := by decide +kernel
theorem dX9_shift_30 : decode cX9_shift 30 = .ok (.iload_n 1, 1) := by decide +kernel
theorem dX9_shift_31 : decode cX9_shift 31 = .ok (.invokevirtual 217, 3) := by decide +kernel
theorem dX9_shift_34 : decode cX9_shift 34 = .ok (.ifCond .eq 10, 3) := by decide +kernel
theorem dX9_shift_37 : decode cX9_shift 37 = .ok (.bipush 100, 2) := by decide +kernel
theorem dX9_shift_39 : decode cX9_shift 39 = .ok (.iload_n 1, 1) := by decide +kernel
theorem dX9_shift_40 : decode cX9_shift 40 = .ok (.imul, 1) := by decide +kernel
theorem dX9_shift_41 : decode cX9_shift 41 = .ok (.iload_n 2, 1) := by decide +kernel
theorem dX9_shift_42 : decode cX9_shift 42 = .ok (.iadd, 1) := by decide +kernel
theorem dX9_shift_43 : decode cX9_shift 43 = .ok (.ireturn, 1) := by decide +kernel
theorem dX9_shift_44 : decode cX9_shift 44 = .ok (.iinc 2 2, 3) := by decide +kernel
theorem dX9_shift_47 : decode cX9_shift 47 = .ok (.goto (-27), 3) := by decide +kernel
theorem dX9_shift_50 : decode cX9_shift 50 = .ok (.iinc 1 2, 3) := by decide +kernel
theorem dX9_shift_53 : decode cX9_shift 53 = .ok (.goto (-51), 3) := by decide +kernel
theorem dX9_shift_56 : decode cX9_shift 56 = .ok (.iconst (-1), 1) := by decide +kernel
theorem dX9_shift_57 : decode cX9_shift 57 = .ok (.ireturn, 1) := by decide +kernel
theorem dX9_moved_0 : decode cX9_moved 0 = .ok (.iload_n 1, 1) := by decide +kernel
theorem dX9_moved_1 : decode cX9_moved 1 = .ok (.i2l, 1) := by decide +kernel
theorem dX9_moved_2 : decode cX9_moved 2 = .ok (.lconst 0, 1) := by decide +kernel
theorem dX9_moved_3 : decode cX9_moved 3 = .ok (.ldc2_w 152, 3) := by decide +kernel
theorem dX9_moved_6 : decode cX9_moved 6 = .ok (.invokestatic 105, 3) := by decide +kernel
theorem dX9_moved_9 : decode cX9_moved 9 = .ok (.ifCond .ne 5, 3) := by decide +kernel
theorem dX9_moved_12 : decode cX9_moved 12 = .ok (.iconst (-1), 1) := by decide +kernel
theorem dX9_moved_13 : decode cX9_moved 13 = .ok (.ireturn, 1) := by decide +kernel
theorem dX9_moved_14 : decode cX9_moved 14 = .ok (.aload_n 0, 1) := by decide +kernel
theorem dX9_moved_15 : decode cX9_moved 15 = .ok (.invokevirtual 189, 3) := by decide +kernel
theorem dX9_moved_18 : decode cX9_moved 18 = .ok (.iconst 2, 1) := by decide +kernel
theorem dX9_moved_19 : decode cX9_moved 19 = .ok (.istore_n 2, 1) := by decide +kernel
theorem dX9_moved_20 : decode cX9_moved 20 = .ok (.iload_n 2, 1) := by decide +kernel
theorem dX9_moved_21 : decode cX9_moved 21 = .ok (.bipush 64, 2) := by decide +kernel
theorem dX9_moved_23 : decode cX9_moved 23 = .ok (.if_icmp .gt 48, 3) := by decide +kernel
theorem dX9_moved_26 : decode cX9_moved 26 = .ok (.aload_n 0, 1) := by decide +kernel
theorem dX9_moved_27 : decode cX9_moved 27 = .ok (.iconst 2, 1) := by decide +kernel
theorem dX9_moved_28 : decode cX9_moved 28 = .ok (.invokevirtual 192, 3) := by decide +kernel
theorem dX9_moved_31 : decode cX9_moved 31 = .ok (.aload_n 0, 1) := by decide +kernel
theorem dX9_moved_32 : decode cX9_moved 32 = .ok (.invokevirtual 220, 3) := by decide +kernel
theorem dX9_moved_35 : decode cX9_moved 35 = .ok (.istore_n 3, 1) := by decide +kernel
theorem dX9_moved_36 : decode cX9_moved 36 = .ok (.iload_n 3, 1) := by decide +kernel
theorem dX9_moved_37 : decode cX9_moved 37 = .ok (.ifCond .lt 28, 3) := by decide +kernel
theorem dX9_moved_40 : decode cX9_moved 40 = .ok (.iload_n 1, 1) := by decide +kernel
theorem dX9_moved_41 : decode cX9_moved 41 = .ok (.ifCond .ne 7, 3) := by decide +kernel
theorem dX9_moved_44 : decode cX9_moved 44 = .ok (.iload_n 2, 1) := by decide +kernel
theorem dX9_moved_45 : decode cX9_moved 45 = .ok (.goto 19, 3) := by decide +kernel
theorem dX9_moved_48 : decode cX9_moved 48 = .ok (.iload_n 1, 1) := by decide +kernel
theorem dX9_moved_49 : decode cX9_moved 49 = .ok (.iconst 1, 1) := by decide +kernel
theorem dX9_moved_50 : decode cX9_moved 50 = .ok (.if_icmp .ne 10, 3) := by decide +kernel
theorem dX9_moved_53 : decode cX9_moved 53 = .ok (.iload_n 3, 1) := by decide +kernel
theorem dX9_moved_54 : decode cX9_moved 54 = .ok (.bipush 100, 2) := by decide +kernel
theorem dX9_moved_56 : decode cX9_moved 56 = .ok (.irem, 1) := by decide +kernel
theorem dX9_moved_57 : decode cX9_moved 57 = .ok (.goto 7, 3) := by decide +kernel
theorem dX9_moved_60 : decode cX9_moved 60 = .ok (.iload_n 3, 1) := by decide +kernel
theorem dX9_moved_61 : decode cX9_moved 61 = .ok (.bipush 100, 2) := by decide +kernel
theorem dX9_moved_63 : decode cX9_moved 63 = .ok (.idiv, 1) := by decide +kernel
theorem dX9_moved_64 : decode cX9_moved 64 = .ok (.ireturn, 1) := by decide +kernel
theorem dX9_moved_65 : decode cX9_moved 65 = .ok (.iinc 2 2, 3) := by decide +kernel
theorem dX9_moved_68 : decode cX9_moved 68 = .ok (.goto (-48), 3) := by decide +kernel
theorem dX9_moved_71 : decode cX9_moved 71 = .ok (.bipush (-5), 2) := by decide +kernel
theorem dX9_moved_73 : decode cX9_moved 73 = .ok (.ireturn, 1) := by decide +kernel
theorem dX9_isMet_0 : decode cX9_isMet 0 = .ok (.iconst 0, 1) := by decide +kernel
theorem dX9_isMet_1 : decode cX9_isMet 1 = .ok (.istore_n 2, 1) := by decide +kernel
theorem dX9_isMet_2 : decode cX9_isMet 2 = .ok (.iload_n 2, 1) := by decide +kernel
theorem dX9_isMet_3 : decode cX9_isMet 3 = .ok (.iload_n 1, 1) := by decide +kernel
theorem dX9_isMet_4 : decode cX9_isMet 4 = .ok (.if_icmp .ge 55, 3) := by decide +kernel
theorem dX9_isMet_7 : decode cX9_isMet 7 = .ok (.iconst 0, 1) := by decide +kernel
theorem dX9_isMet_8 : decode cX9_isMet 8 = .ok (.istore_n 3, 1) := by decide +kernel
theorem dX9_isMet_9 : decode cX9_isMet 9 = .ok (.iload_n 3, 1) := by decide +kernel
theorem dX9_isMet_10 : decode cX9_isMet 10 = .ok (.aload_n 0, 1) := by decide +kernel
theorem dX9_isMet_11 : decode cX9_isMet 11 = .ok (.getfield 15, 3) := by decide +kernel
theorem dX9_isMet_14 : decode cX9_isMet 14 = .ok (.if_icmp .ge 29, 3) := by decide +kernel
theorem dX9_isMet_17 : decode cX9_isMet 17 = .ok (.aload_n 0, 1) := by decide +kernel
theorem dX9_isMet_18 : decode cX9_isMet 18 = .ok (.getfield 58, 3) := by decide +kernel
theorem dX9_isMet_21 : decode cX9_isMet 21 = .ok (.bipush 16, 2) := by decide +kernel
theorem dX9_isMet_23 : decode cX9_isMet 23 = .ok (.iload_n 2, 1) := by decide +kernel
theorem dX9_isMet_24 : decode cX9_isMet 24 = .ok (.imul, 1) := by decide +kernel
theorem dX9_isMet_25 : decode cX9_isMet 25 = .ok (.iload_n 3, 1) := by decide +kernel
theorem dX9_isMet_26 : decode cX9_isMet 26 = .ok (.iadd, 1) := by decide +kernel
theorem dX9_isMet_27 : decode cX9_isMet 27 = .ok (.iaload, 1) := by decide +kernel
theorem dX9_isMet_28 : decode cX9_isMet 28 = .ok (.aload_n 0, 1) := by decide +kernel
theorem dX9_isMet_29 : decode cX9_isMet 29 = .ok (.getfield 43, 3) := by decide +kernel
theorem dX9_isMet_32 : decode cX9_isMet 32 = .ok (.iload_n 3, 1) := by decide +kernel
theorem dX9_isMet_33 : decode cX9_isMet 33 = .ok (.iaload, 1) := by decide +kernel
theorem dX9_isMet_34 : decode cX9_isMet 34 = .ok (.if_icmp .ne 9, 3) := by decide +kernel
theorem dX9_isMet_37 : decode cX9_isMet 37 = .ok (.iinc 3 1, 3) := by decide +kernel
theorem dX9_isMet_40 : decode cX9_isMet 40 = .ok (.goto (-31), 3) := by decide +kernel
theorem dX9_isMet_43 : decode cX9_isMet 43 = .ok (.iload_n 3, 1) := by decide +kernel
theorem dX9_isMet_44 : decode cX9_isMet 44 = .ok (.aload_n 0, 1) := by decide +kernel
theorem dX9_isMet_45 : decode cX9_isMet 45 = .ok (.getfield 15, 3) := by decide +kernel
theorem dX9_isMet_48 : decode cX9_isMet 48 = .ok (.if_icmp .ne 5, 3) := by decide +kernel
theorem dX9_isMet_51 : decode cX9_isMet 51 = .ok (.iconst 1, 1) := by decide +kernel
theorem dX9_isMet_52 : decode cX9_isMet 52 = .ok (.ireturn, 1) := by decide +kernel
theorem dX9_isMet_53 : decode cX9_isMet 53 = .ok (.iinc 2 1, 3) := by decide +kernel
theorem dX9_isMet_56 : decode cX9_isMet 56 = .ok (.goto (-54), 3) := by decide +kernel
theorem dX9_isMet_59 : decode cX9_isMet 59 = .ok (.iconst 0, 1) := by decide +kernel
theorem dX9_isMet_60 : decode cX9_isMet 60 = .ok (.ireturn, 1) := by decide +kernel
theorem dX9_unlike_0 : decode cX9_unlike 0 = .ok (.iload_n 1, 1) := by decide +kernel
theorem dX9_unlike_1 : decode cX9_unlike 1 = .ok (.i2l, 1) := by decide +kernel
theorem dX9_unlike_2 : decode cX9_unlike 2 = .ok (.lconst 0, 1) := by decide +kernel
theorem dX9_unlike_3 : decode cX9_unlike 3 = .ok (.ldc2_w 223, 3) := by decide +kernel
theorem dX9_unlike_6 : decode cX9_unlike 6 = .ok (.invokestatic 105, 3) := by decide +kernel
theorem dX9_unlike_9 : decode cX9_unlike 9 = .ok (.ifCond .ne 6, 3) := by decide +kernel
theorem dX9_unlike_12 : decode cX9_unlike 12 = .ok (.bipush (-2), 2) := by decide +kernel
theorem dX9_unlike_14 : decode cX9_unlike 14 = .ok (.ireturn, 1) := by decide +kernel
theorem dX9_unlike_15 : decode cX9_unlike 15 = .ok (.aload_n 0, 1) := by decide +kernel
theorem dX9_unlike_16 : decode cX9_unlike 16 = .ok (.invokevirtual 189, 3) := by decide +kernel
theorem dX9_unlike_19 : decode cX9_unlike 19 = .ok (.iconst 0, 1) := by decide +kernel
theorem dX9_unlike_20 : decode cX9_unlike 20 = .ok (.istore_n 2, 1) := by decide +kernel
theorem dX9_unlike_21 : decode cX9_unlike 21 = .ok (.iconst 0, 1) := by decide +kernel
theorem dX9_unlike_22 : decode cX9_unlike 22 = .ok (.istore_n 3, 1) := by decide +kernel
theorem dX9_unlike_23 : decode cX9_unlike 23 = .ok (.iload_n 3, 1) := by decide +kernel
theorem dX9_unlike_24 : decode cX9_unlike 24 = .ok (.iload_n 1, 1) := by decide +kernel
theorem dX9_unlike_25 : decode cX9_unlike 25 = .ok (.if_icmp .gt 62, 3) := by decide +kernel
theorem dX9_unlike_28 : decode cX9_unlike 28 = .ok (.aload_n 0, 1) := by decide +kernel
theorem dX9_unlike_29 : decode cX9_unlike 29 = .ok (.iload_n 2, 1) := by decide +kernel
theorem dX9_unlike_30 : decode cX9_unlike 30 = .ok (.invokevirtual 225, 3) := by decide +kernel
theorem dX9_unlike_33 : decode cX9_unlike 33 = .ok (.ifCond .ne 43, 3) := by decide +kernel
theorem dX9_unlike_36 : decode cX9_unlike 36 = .ok (.iconst 0, 1) := by decide +kernel
theorem dX9_unlike_37 : decode cX9_unlike 37 = .ok (.istore 4, 2) := by decide +kernel
theorem dX9_unlike_39 : decode cX9_unlike 39 = .ok (.iload 4, 2) := by decide +kernel
theorem dX9_unlike_41 : decode cX9_unlike 41 = .ok (.aload_n 0, 1) := by decide +kernel
theorem dX9_unlike_42 : decode cX9_unlike 42 = .ok (.getfield 15, 3) := by decide +kernel
theorem dX9_unlike_45 : decode cX9_unlike 45 = .ok (.if_icmp .ge 28, 3) := by decide +kernel
theorem dX9_unlike_48 : decode cX9_unlike 48 = .ok (.aload_n 0, 1) := by decide +kernel
theorem dX9_unlike_49 : decode cX9_unlike 49 = .ok (.getfield 58, 3) := by decide +kernel
theorem dX9_unlike_52 : decode cX9_unlike 52 = .ok (.bipush 16, 2) := by decide +kernel
theorem dX9_unlike_54 : decode cX9_unlike 54 = .ok (.iload_n 2, 1) := by decide +kernel
theorem dX9_unlike_55 : decode cX9_unlike 55 = .ok (.imul, 1) := by decide +kernel
theorem dX9_unlike_56 : decode cX9_unlike 56 = .ok (.iload 4, 2) := by decide +kernel
theorem dX9_unlike_58 : decode cX9_unlike 58 = .ok (.iadd, 1) := by decide +kernel
theorem dX9_unlike_59 : decode cX9_unlike 59 = .ok (.aload_n 0, 1) := by decide +kernel
theorem dX9_unlike_60 : decode cX9_unlike 60 = .ok (.getfield 43, 3) := by decide +kernel
theorem dX9_unlike_63 : decode cX9_unlike 63 = .ok (.iload 4, 2) := by decide +kernel
theorem dX9_unlike_65 : decode cX9_unlike 65 = .ok (.iaload, 1) := by decide +kernel
theorem dX9_unlike_66 : decode cX9_unlike 66 = .ok (.iastore, 1) := by decide +kernel
theorem dX9_unlike_67 : decode cX9_unlike 67 = .ok (.iinc 4 1, 3) := by decide +kernel
theorem dX9_unlike_70 : decode cX9_unlike 70 = .ok (.goto (-31), 3) := by decide +kernel
theorem dX9_unlike_73 : decode cX9_unlike 73 = .ok (.iinc 2 1, 3) := by decide +kernel
theorem dX9_unlike_76 : decode cX9_unlike 76 = .ok (.aload_n 0, 1) := by decide +kernel
theorem dX9_unlike_77 : decode cX9_unlike 77 = .ok (.iconst 1, 1) := by decide +kernel
theorem dX9_unlike_78 : decode cX9_unlike 78 = .ok (.invokevirtual 192, 3) := by decide +kernel
theorem dX9_unlike_81 : decode cX9_unlike 81 = .ok (.iinc 3 1, 3) := by decide +kernel
theorem dX9_unlike_84 : decode cX9_unlike 84 = .ok (.goto (-61), 3) := by decide +kernel
theorem dX9_unlike_87 : decode cX9_unlike 87 = .ok (.iload_n 2, 1) := by decide +kernel
theorem dX9_unlike_88 : decode cX9_unlike 88 = .ok (.ireturn, 1) := by decide +kernel
theorem dX9_findThing_0 : decode cX9_findThing 0 = .ok (.iconst 1, 1) := by decide +kernel
theorem dX9_findThing_1 : decode cX9_findThing 1 = .ok (.istore_n 3, 1) := by decide +kernel
theorem dX9_findThing_2 : decode cX9_findThing 2 = .ok (.aload_n 0, 1) := by decide +kernel
theorem dX9_findThing_3 : decode cX9_findThing 3 = .ok (.getfield 64, 3) := by decide +kernel
theorem dX9_findThing_6 : decode cX9_findThing 6 = .ok (.iconst 0, 1) := by decide +kernel
theorem dX9_findThing_7 : decode cX9_findThing 7 = .ok (.iload_n 2, 1) := by decide +kernel
theorem dX9_findThing_8 : decode cX9_findThing 8 = .ok (.iastore, 1) := by decide +kernel
theorem dX9_findThing_9 : decode cX9_findThing 9 = .ok (.aload_n 0, 1) := by decide +kernel
theorem dX9_findThing_10 : decode cX9_findThing 10 = .ok (.getfield 61, 3) := by decide +kernel
theorem dX9_findThing_13 : decode cX9_findThing 13 = .ok (.iload_n 2, 1) := by decide +kernel
theorem dX9_findThing_14 : decode cX9_findThing 14 = .ok (.aload_n 0, 1) := by decide +kernel
theorem dX9_findThing_15 : decode cX9_findThing 15 = .ok (.getfield 175, 3) := by decide +kernel
theorem dX9_findThing_18 : decode cX9_findThing 18 = .ok (.iastore, 1) := by decide +kernel
theorem dX9_findThing_19 : decode cX9_findThing 19 = .ok (.aload_n 0, 1) := by decide +kernel
theorem dX9_findThing_20 : decode cX9_findThing 20 = .ok (.getfield 67, 3) := by decide +kernel
theorem dX9_findThing_23 : decode cX9_findThing 23 = .ok (.aload_n 0, 1) := by decide +kernel
theorem dX9_findThing_24 : decode cX9_findThing 24 = .ok (.getfield 175, 3) := by decide +kernel
theorem dX9_findThing_27 : decode cX9_findThing 27 = .ok (.iload_n 2, 1) := by decide +kernel
theorem dX9_findThing_28 : decode cX9_findThing 28 = .ok (.iastore, 1) := by decide +kernel
theorem dX9_findThing_29 : decode cX9_findThing 29 = .ok (.aload_n 0, 1) := by decide +kernel
theorem dX9_findThing_30 : decode cX9_findThing 30 = .ok (.getfield 70, 3) := by decide +kernel
theorem dX9_findThing_33 : decode cX9_findThing 33 = .ok (.aload_n 0, 1) := by decide +kernel
theorem dX9_findThing_34 : decode cX9_findThing 34 = .ok (.getfield 175, 3) := by decide +kernel
theorem dX9_findThing_37 : decode cX9_findThing 37 = .ok (.iconst 0, 1) := by decide +kernel
theorem dX9_findThing_38 : decode cX9_findThing 38 = .ok (.iastore, 1) := by decide +kernel
theorem dX9_findThing_39 : decode cX9_findThing 39 = .ok (.iload_n 3, 1) := by decide +kernel
theorem dX9_findThing_40 : decode cX9_findThing 40 = .ok (.ifCond .le 159, 3) := by decide +kernel
theorem dX9_findThing_43 : decode cX9_findThing 43 = .ok (.iinc 3 (-1), 3) := by decide +kernel
theorem dX9_findThing_46 : decode cX9_findThing 46 = .ok (.aload_n 0, 1) := by decide +kernel
theorem dX9_findThing_47 : decode cX9_findThing 47 = .ok (.getfield 64, 3) := by decide +kernel
theorem dX9_findThing_50 : decode cX9_findThing 50 = .ok (.iload_n 3, 1) := by decide +kernel
theorem dX9_findThing_51 : decode cX9_findThing 51 = .ok (.iaload, 1) := by decide +kernel
theorem dX9_findThing_52 : decode cX9_findThing 52 = .ok (.istore 4, 2) := by decide +kernel
theorem dX9_findThing_54 : decode cX9_findThing 54 = .ok (.aload_n 0, 1) := by decide +kernel
theorem dX9_findThing_55 : decode cX9_findThing 55 = .ok (.getfield 70, 3) := by decide +kernel
theorem dX9_findThing_58 : decode cX9_findThing 58 = .ok (.aload_n 0, 1) := by decide +kernel
theorem dX9_findThing_59 : decode cX9_findThing 59 = .ok (.getfield 175, 3) := by decide +kernel
theorem dX9_findThing_62 : decode cX9_findThing 62 = .ok (.dup2, 1) := by decide +kernel
theorem dX9_findThing_63 : decode cX9_findThing 63 = .ok (.iaload, 1) := by decide +kernel
theorem dX9_findThing_64 : decode cX9_findThing 64 = .ok (.iconst 1, 1) := by decide +kernel
theorem dX9_findThing_65 : decode cX9_findThing 65 = .ok (.iadd, 1) := by decide +kernel
theorem dX9_findThing_66 : decode cX9_findThing 66 = .ok (.iastore, 1) := by decide +kernel
theorem dX9_findThing_67 : decode cX9_findThing 67 = .ok (.iconst 0, 1) := by decide +kernel
theorem dX9_findThing_68 : decode cX9_findThing 68 = .ok (.istore 5, 2) := by decide +kernel
theorem dX9_findThing_70 : decode cX9_findThing 70 = .ok (.iload 5, 2) := by decide +kernel
theorem dX9_findThing_72 : decode cX9_findThing 72 = .ok (.bipush 9, 2) := by decide +kernel
theorem dX9_findThing_74 : decode cX9_findThing 74 = .ok (.if_icmp .ge 122, 3) := by decide +kernel
theorem dX9_findThing_77 : decode cX9_findThing 77 = .ok (.iload 4, 2) := by decide +kernel
theorem dX9_findThing_79 : decode cX9_findThing 79 = .ok (.bipush 16, 2) := by decide +kernel
theorem dX9_findThing_81 : decode cX9_findThing 81 = .ok (.irem, 1) := by decide +kernel
theorem dX9_findThing_82 : decode cX9_findThing 82 = .ok (.iload 5, 2) := by decide +kernel
theorem dX9_findThing_84 : decode cX9_findThing 84 = .ok (.iconst 3, 1) := by decide +kernel
theorem dX9_findThing_85 : decode cX9_findThing 85 = .ok (.irem, 1) := by decide +kernel
theorem dX9_findThing_86 : decode cX9_findThing 86 = .ok (.iadd, 1) := by decide +kernel
theorem dX9_findThing_87 : decode cX9_findThing 87 = .ok (.iconst 1, 1) := by decide +kernel
theorem dX9_findThing_88 : decode cX9_findThing 88 = .ok (.isub, 1) := by decide +kernel
theorem dX9_findThing_89 : decode cX9_findThing 89 = .ok (.aload_n 0, 1) := by decide +kernel
theorem dX9_findThing_90 : decode cX9_findThing 90 = .ok (.getfield 9, 3) := by decide +kernel
theorem dX9_findThing_93 : decode cX9_findThing 93 = .ok (.iadd, 1) := by decide +kernel
theorem dX9_findThing_94 : decode cX9_findThing 94 = .ok (.aload_n 0, 1) := by decide +kernel
theorem dX9_findThing_95 : decode cX9_findThing 95 = .ok (.getfield 9, 3) := by decide +kernel
theorem dX9_findThing_98 : decode cX9_findThing 98 = .ok (.irem, 1) := by decide +kernel
theorem dX9_findThing_99 : decode cX9_findThing 99 = .ok (.istore 6, 2) := by decide +kernel
theorem dX9_findThing_101 : decode cX9_findThing 101 = .ok (.iload 4, 2) := by decide +kernel
theorem dX9_findThing_103 : decode cX9_findThing 103 = .ok (.bipush 16, 2) := by decide +kernel
theorem dX9_findThing_105 : decode cX9_findThing 105 = .ok (.idiv, 1) := by decide +kernel
theorem dX9_findThing_106 : decode cX9_findThing 106 = .ok (.iload 5, 2) := by decide +kernel
theorem dX9_findThing_108 : decode cX9_findThing 108 = .ok (.iconst 3, 1) := by decide +kernel
theorem dX9_findThing_109 : decode cX9_findThing 109 = .ok (.idiv, 1) := by decide +kernel
theorem dX9_findThing_110 : decode cX9_findThing 110 = .ok (.iadd, 1) := by decide +kernel
theorem dX9_findThing_111 : decode cX9_findThing 111 = .ok (.iconst 1, 1) := by decide +kernel
theorem dX9_findThing_112 : decode cX9_findThing 112 = .ok (.isub, 1) := by decide +kernel
theorem dX9_findThing_113 : decode cX9_findThing 113 = .ok (.aload_n 0, 1) := by decide +kernel
theorem dX9_findThing_114 : decode cX9_findThing 114 = .ok (.getfield 15, 3) := by decide +kernel
theorem dX9_findThing_117 : decode cX9_findThing 117 = .ok (.iadd, 1) := by decide +kernel
theorem dX9_findThing_118 : decode cX9_findThing 118 = .ok (.aload_n 0, 1) := by decide +kernel
theorem dX9_findThing_119 : decode cX9_findThing 119 = .ok (.getfield 15, 3) := by decide +kernel
theorem dX9_findThing_122 : decode cX9_findThing 122 = .ok (.irem, 1) := by decide +kernel
theorem dX9_findThing_123 : decode cX9_findThing 123 = .ok (.istore 7, 2) := by decide +kernel
theorem dX9_findThing_125 : decode cX9_findThing 125 = .ok (.aload_n 1, 1) := by decide +kernel
theorem dX9_findThing_126 : decode cX9_findThing 126 = .ok (.iload 7, 2) := by decide +kernel
theorem dX9_findThing_128 : decode cX9_findThing 128 = .ok (.iaload, 1) := by decide +kernel
theorem dX9_findThing_129 : decode cX9_findThing 129 = .ok (.iload 6, 2) := by decide +kernel
theorem dX9_findThing_131 : decode cX9_findThing 131 = .ok (.ishr, 1) := by decide +kernel
theorem dX9_findThing_132 : decode cX9_findThing 132 = .ok (.iconst 1, 1) := by decide +kernel
theorem dX9_findThing_133 : decode cX9_findThing 133 = .ok (.iand, 1) := by decide +kernel
theorem dX9_findThing_134 : decode cX9_findThing 134 = .ok (.ifCond .eq 56, 3) := by decide +kernel
theorem dX9_findThing_137 : decode cX9_findThing 137 = .ok (.aload_n 0, 1) := by decide +kernel
theorem dX9_findThing_138 : decode cX9_findThing 138 = .ok (.getfield 61, 3) := by decide +kernel
theorem dX9_findThing_141 : decode cX9_findThing 141 = .ok (.bipush 16, 2) := by decide +kernel
theorem dX9_findThing_143 : decode cX9_findThing 143 = .ok (.iload 7, 2) := by decide +kernel
theorem dX9_findThing_145 : decode cX9_findThing 145 = .ok (.imul, 1) := by decide +kernel
theorem dX9_findThing_146 : decode cX9_findThing 146 = .ok (.iload 6, 2) := by decide +kernel
theorem dX9_findThing_148 : decode cX9_findThing 148 = .ok (.iadd, 1) := by decide +kernel
theorem dX9_findThing_149 : decode cX9_findThing 149 = .ok (.iaload, 1) := by decide +kernel
theorem dX9_findThing_150 : decode cX9_findThing 150 = .ok (.ifCond .lt 6, 3) := by decide +kernel
theorem dX9_findThing_153 : decode cX9_findThing 153 = .ok (.goto 37, 3) := by decide +kernel
theorem dX9_findThing_156 : decode cX9_findThing 156 = .ok (.aload_n 0, 1) := by decide +kernel
theorem dX9_findThing_157 : decode cX9_findThing 157 = .ok (.getfield 61, 3) := by decide +kernel
theorem dX9_findThing_160 : decode cX9_findThing 160 = .ok (.bipush 16, 2) := by decide +kernel
theorem dX9_findThing_162 : decode cX9_findThing 162 = .ok (.iload 7, 2) := by decide +kernel
theorem dX9_findThing_164 : decode cX9_findThing 164 = .ok (.imul, 1) := by decide +kernel
theorem dX9_findThing_165 : decode cX9_findThing 165 = .ok (.iload 6, 2) := by decide +kernel
theorem dX9_findThing_167 : decode cX9_findThing 167 = .ok (.iadd, 1) := by decide +kernel
theorem dX9_findThing_168 : decode cX9_findThing 168 = .ok (.aload_n 0, 1) := by decide +kernel
theorem dX9_findThing_169 : decode cX9_findThing 169 = .ok (.getfield 175, 3) := by decide +kernel
theorem dX9_findThing_172 : decode cX9_findThing 172 = .ok (.iastore, 1) := by decide +kernel
theorem dX9_findThing_173 : decode cX9_findThing 173 = .ok (.aload_n 0, 1) := by decide +kernel
theorem dX9_findThing_174 : decode cX9_findThing 174 = .ok (.getfield 64, 3) := by decide +kernel
theorem dX9_findThing_177 : decode cX9_findThing 177 = .ok (.iload_n 3, 1) := by decide +kernel
theorem dX9_findThing_178 : decode cX9_findThing 178 = .ok (.bipush 16, 2) := by decide +kernel
theorem dX9_findThing_180 : decode cX9_findThing 180 = .ok (.iload 7, 2) := by decide +kernel
theorem dX9_findThing_182 : decode cX9_findThing 182 = .ok (.imul, 1) := by decide +kernel
theorem dX9_findThing_183 : decode cX9_findThing 183 = .ok (.iload 6, 2) := by decide +kernel
theorem dX9_findThing_185 : decode cX9_findThing 185 = .ok (.iadd, 1) := by decide +kernel
theorem dX9_findThing_186 : decode cX9_findThing 186 = .ok (.iastore, 1) := by decide +kernel
theorem dX9_findThing_187 : decode cX9_findThing 187 = .ok (.iinc 3 1, 3) := by decide +kernel
theorem dX9_findThing_190 : decode cX9_findThing 190 = .ok (.iinc 5 1, 3) := by decide +kernel
theorem dX9_findThing_193 : decode cX9_findThing 193 = .ok (.goto (-123), 3) := by decide +kernel
theorem dX9_findThing_196 : decode cX9_findThing 196 = .ok (.goto (-157), 3) := by decide +kernel
theorem dX9_findThing_199 : decode cX9_findThing 199 = .ok (.aload_n 0, 1) := by decide +kernel
theorem dX9_findThing_200 : decode cX9_findThing 200 = .ok (.dup, 1) := by decide +kernel
theorem dX9_findThing_201 : decode cX9_findThing 201 = .ok (.getfield 175, 3) := by decide +kernel
theorem dX9_findThing_204 : decode cX9_findThing 204 = .ok (.iconst 1, 1) := by decide +kernel
theorem dX9_findThing_205 : decode cX9_findThing 205 = .ok (.iadd, 1) := by decide +kernel
theorem dX9_findThing_206 : decode cX9_findThing 206 = .ok (.putfield 175, 3) := by decide +kernel
theorem dX9_findThing_209 : decode cX9_findThing 209 = .ok (.return_, 1) := by decide +kernel
theorem dX9_areAlike_0 : decode cX9_areAlike 0 = .ok (.aload_n 0, 1) := by decide +kernel
theorem dX9_areAlike_1 : decode cX9_areAlike 1 = .ok (.getfield 70, 3) := by decide +kernel
theorem dX9_areAlike_4 : decode cX9_areAlike 4 = .ok (.iload_n 1, 1) := by decide +kernel
theorem dX9_areAlike_5 : decode cX9_areAlike 5 = .ok (.iaload, 1) := by decide +kernel
theorem dX9_areAlike_6 : decode cX9_areAlike 6 = .ok (.aload_n 0, 1) := by decide +kernel
theorem dX9_areAlike_7 : decode cX9_areAlike 7 = .ok (.getfield 70, 3) := by decide +kernel
theorem dX9_areAlike_10 : decode cX9_areAlike 10 = .ok (.iload_n 2, 1) := by decide +kernel
theorem dX9_areAlike_11 : decode cX9_areAlike 11 = .ok (.iaload, 1) := by decide +kernel
theorem dX9_areAlike_12 : decode cX9_areAlike 12 = .ok (.if_icmp .eq 5, 3) := by decide +kernel
theorem dX9_areAlike_15 : decode cX9_areAlike 15 = .ok (.iconst 0, 1) := by decide +kernel
theorem dX9_areAlike_16 : decode cX9_areAlike 16 = .ok (.ireturn, 1) := by decide +kernel
theorem dX9_areAlike_17 : decode cX9_areAlike 17 = .ok (.aload_n 0, 1) := by decide +kernel
theorem dX9_areAlike_18 : decode cX9_areAlike 18 = .ok (.getfield 67, 3) := by decide +kernel
theorem dX9_areAlike_21 : decode cX9_areAlike 21 = .ok (.iload_n 2, 1) := by decide +kernel
theorem dX9_areAlike_22 : decode cX9_areAlike 22 = .ok (.iaload, 1) := by decide +kernel
theorem dX9_areAlike_23 : decode cX9_areAlike 23 = .ok (.bipush 16, 2) := by decide +kernel
theorem dX9_areAlike_25 : decode cX9_areAlike 25 = .ok (.irem, 1) := by decide +kernel
theorem dX9_areAlike_26 : decode cX9_areAlike 26 = .ok (.aload_n 0, 1) := by decide +kernel
theorem dX9_areAlike_27 : decode cX9_areAlike 27 = .ok (.getfield 67, 3) := by decide +kernel
theorem dX9_areAlike_30 : decode cX9_areAlike 30 = .ok (.iload_n 1, 1) := by decide +kernel
theorem dX9_areAlike_31 : decode cX9_areAlike 31 = .ok (.iaload, 1) := by decide +kernel
theorem dX9_areAlike_32 : decode cX9_areAlike 32 = .ok (.bipush 16, 2) := by decide +kernel
theorem dX9_areAlike_34 : decode cX9_areAlike 34 = .ok (.irem, 1) := by decide +kernel
theorem dX9_areAlike_35 : decode cX9_areAlike 35 = .ok (.isub, 1) := by decide +kernel
theorem dX9_areAlike_36 : decode cX9_areAlike 36 = .ok (.aload_n 0, 1) := by decide +kernel
theorem dX9_areAlike_37 : decode cX9_areAlike 37 = .ok (.getfield 9, 3) := by decide +kernel
theorem dX9_areAlike_40 : decode cX9_areAlike 40 = .ok (.iadd, 1) := by decide +kernel
theorem dX9_areAlike_41 : decode cX9_areAlike 41 = .ok (.istore_n 3, 1) := by decide +kernel
theorem dX9_areAlike_42 : decode cX9_areAlike 42 = .ok (.aload_n 0, 1) := by decide +kernel
theorem dX9_areAlike_43 : decode cX9_areAlike 43 = .ok (.getfield 67, 3) := by decide +kernel
theorem dX9_areAlike_46 : decode cX9_areAlike 46 = .ok (.iload_n 2, 1) := by decide +kernel
theorem dX9_areAlike_47 : decode cX9_areAlike 47 = .ok (.iaload, 1) := by decide +kernel
theorem dX9_areAlike_48 : decode cX9_areAlike 48 = .ok (.bipush 16, 2) := by decide +kernel
theorem dX9_areAlike_50 : decode cX9_areAlike 50 = .ok (.idiv, 1) := by decide +kernel
theorem dX9_areAlike_51 : decode cX9_areAlike 51 = .ok (.aload_n 0, 1) := by decide +kernel
theorem dX9_areAlike_52 : decode cX9_areAlike 52 = .ok (.getfield 67, 3) := by decide +kernel
theorem dX9_areAlike_55 : decode cX9_areAlike 55 = .ok (.iload_n 1, 1) := by decide +kernel
theorem dX9_areAlike_56 : decode cX9_areAlike 56 = .ok (.iaload, 1) := by decide +kernel
theorem dX9_areAlike_57 : decode cX9_areAlike 57 = .ok (.bipush 16, 2) := by decide +kernel
theorem dX9_areAlike_59 : decode cX9_areAlike 59 = .ok (.idiv, 1) := by decide +kernel
theorem dX9_areAlike_60 : decode cX9_areAlike 60 = .ok (.isub, 1) := by decide +kernel
theorem dX9_areAlike_61 : decode cX9_areAlike 61 = .ok (.aload_n 0, 1) := by decide +kernel
theorem dX9_areAlike_62 : decode cX9_areAlike 62 = .ok (.getfield 15, 3) := by decide +kernel
theorem dX9_areAlike_65 : decode cX9_areAlike 65 = .ok (.iadd, 1) := by decide +kernel
theorem dX9_areAlike_66 : decode cX9_areAlike 66 = .ok (.istore 4, 2) := by decide +kernel
theorem dX9_areAlike_68 : decode cX9_areAlike 68 = .ok (.iconst 0, 1) := by decide +kernel
theorem dX9_areAlike_69 : decode cX9_areAlike 69 = .ok (.istore 5, 2) := by decide +kernel
theorem dX9_areAlike_71 : decode cX9_areAlike 71 = .ok (.iload 5, 2) := by decide +kernel
theorem dX9_areAlike_73 : decode cX9_areAlike 73 = .ok (.aload_n 0, 1) := by decide +kernel
theorem dX9_areAlike_74 : decode cX9_areAlike 74 = .ok (.getfield 15, 3) := by decide +kernel
theorem dX9_areAlike_77 : decode cX9_areAlike 77 = .ok (.if_icmp .ge 78, 3) := by decide +kernel
theorem dX9_areAlike_80 : decode cX9_areAlike 80 = .ok (.iconst 0, 1) := by decide +kernel
theorem dX9_areAlike_81 : decode cX9_areAlike 81 = .ok (.istore 6, 2) := by decide +kernel
theorem dX9_areAlike_83 : decode cX9_areAlike 83 = .ok (.iload 6, 2) := by decide +kernel
theorem dX9_areAlike_85 : decode cX9_areAlike 85 = .ok (.aload_n 0, 1) := by decide +kernel
theorem dX9_areAlike_86 : decode cX9_areAlike 86 = .ok (.getfield 9, 3) := by decide +kernel
theorem dX9_areAlike_89 : decode cX9_areAlike 89 = .ok (.if_icmp .ge 60, 3) := by decide +kernel
theorem dX9_areAlike_92 : decode cX9_areAlike 92 = .ok (.aload_n 0, 1) := by decide +kernel
theorem dX9_areAlike_93 : decode cX9_areAlike 93 = .ok (.getfield 61, 3) := by decide +kernel
theorem dX9_areAlike_96 : decode cX9_areAlike 96 = .ok (.bipush 16, 2) := by decide +kernel
theorem dX9_areAlike_98 : decode cX9_areAlike 98 = .ok (.iload 5, 2) := by decide +kernel
theorem dX9_areAlike_100 : decode cX9_areAlike 100 = .ok (.imul, 1) := by decide +kernel
theorem dX9_areAlike_101 : decode cX9_areAlike 101 = .ok (.iload 6, 2) := by decide +kernel
theorem dX9_areAlike_103 : decode cX9_areAlike 103 = .ok (.iadd, 1) := by decide +kernel
theorem dX9_areAlike_104 : decode cX9_areAlike 104 = .ok (.iaload, 1) := by decide +kernel
theorem dX9_areAlike_105 : decode cX9_areAlike 105 = .ok (.iload_n 1, 1) := by decide +kernel
theorem dX9_areAlike_106 : decode cX9_areAlike 106 = .ok (.if_icmp .ne 37, 3) := by decide +kernel
theorem dX9_areAlike_109 : decode cX9_areAlike 109 = .ok (.aload_n 0, 1) := by decide +kernel
theorem dX9_areAlike_110 : decode cX9_areAlike 110 = .ok (.getfield 61, 3) := by decide +kernel
theorem dX9_areAlike_113 : decode cX9_areAlike 113 = .ok (.bipush 16, 2) := by decide +kernel
theorem dX9_areAlike_115 : decode cX9_areAlike 115 = .ok (.iload 5, 2) := by decide +kernel
theorem dX9_areAlike_117 : decode cX9_areAlike 117 = .ok (.iload 4, 2) := by decide +kernel
theorem dX9_areAlike_119 : decode cX9_areAlike 119 = .ok (.iadd, 1) := by decide +kernel
theorem dX9_areAlike_120 : decode cX9_areAlike 120 = .ok (.aload_n 0, 1) := by decide +kernel
theorem dX9_areAlike_121 : decode cX9_areAlike 121 = .ok (.getfield 15, 3) := by decide +kernel
theorem dX9_areAlike_124 : decode cX9_areAlike 124 = .ok (.irem, 1) := by decide +kernel
theorem dX9_areAlike_125 : decode cX9_areAlike 125 = .ok (.imul, 1) := by decide +kernel
theorem dX9_areAlike_126 : decode cX9_areAlike 126 = .ok (.iload 6, 2) := by decide +kernel
theorem dX9_areAlike_128 : decode cX9_areAlike 128 = .ok (.iload_n 3, 1) := by decide +kernel
theorem dX9_areAlike_129 : decode cX9_areAlike 129 = .ok (.iadd, 1) := by decide +kernel
theorem dX9_areAlike_130 : decode cX9_areAlike 130 = .ok (.aload_n 0, 1) := by decide +kernel
theorem dX9_areAlike_131 : decode cX9_areAlike 131 = .ok (.getfield 9, 3) := by decide +kernel
theorem dX9_areAlike_134 : decode cX9_areAlike 134 = .ok (.irem, 1) := by decide +kernel
theorem dX9_areAlike_135 : decode cX9_areAlike 135 = .ok (.iadd, 1) := by decide +kernel
theorem dX9_areAlike_136 : decode cX9_areAlike 136 = .ok (.iaload, 1) := by decide +kernel
theorem dX9_areAlike_137 : decode cX9_areAlike 137 = .ok (.iload_n 2, 1) := by decide +kernel
theorem dX9_areAlike_138 : decode cX9_areAlike 138 = .ok (.if_icmp .eq 5, 3) := by decide +kernel
theorem dX9_areAlike_141 : decode cX9_areAlike 141 = .ok (.iconst 0, 1) := by decide +kernel
theorem dX9_areAlike_142 : decode cX9_areAlike 142 = .ok (.ireturn, 1) := by decide +kernel
theorem dX9_areAlike_143 : decode cX9_areAlike 143 = .ok (.iinc 6 1, 3) := by decide +kernel
theorem dX9_areAlike_146 : decode cX9_areAlike 146 = .ok (.goto (-63), 3) := by decide +kernel
theorem dX9_areAlike_149 : decode cX9_areAlike 149 = .ok (.iinc 5 1, 3) := by decide +kernel
theorem dX9_areAlike_152 : decode cX9_areAlike 152 = .ok (.goto (-81), 3) := by decide +kernel
theorem dX9_areAlike_155 : decode cX9_areAlike 155 = .ok (.iconst 1, 1) := by decide +kernel
theorem dX9_areAlike_156 : decode cX9_areAlike 156 = .ok (.ireturn, 1) := by decide +kernel
theorem dX9_findThings_0 : decode cX9_findThings 0 = .ok (.aload_n 0, 1) := by decide +kernel
theorem dX9_findThings_1 : decode cX9_findThings 1 = .ok (.iconst 0, 1) := by decide +kernel
theorem dX9_findThings_2 : decode cX9_findThings 2 = .ok (.putfield 175, 3) := by decide +kernel
theorem dX9_findThings_5 : decode cX9_findThings 5 = .ok (.aload_n 0, 1) := by decide +kernel
theorem dX9_findThings_6 : decode cX9_findThings 6 = .ok (.iconst 0, 1) := by decide +kernel
theorem dX9_findThings_7 : decode cX9_findThings 7 = .ok (.putfield 178, 3) := by decide +kernel
theorem dX9_findThings_10 : decode cX9_findThings 10 = .ok (.iconst 0, 1) := by decide +kernel
theorem dX9_findThings_11 : decode cX9_findThings 11 = .ok (.istore_n 2, 1) := by decide +kernel
theorem dX9_findThings_12 : decode cX9_findThings 12 = .ok (.iload_n 2, 1) := by decide +kernel
theorem dX9_findThings_13 : decode cX9_findThings 13 = .ok (.sipush 256, 3) := by decide +kernel
theorem dX9_findThings_16 : decode cX9_findThings 16 = .ok (.if_icmp .ge 17, 3) := by decide +kernel
theorem dX9_findThings_19 : decode cX9_findThings 19 = .ok (.aload_n 0, 1) := by decide +kernel
theorem dX9_findThings_20 : decode cX9_findThings 20 = .ok (.getfield 61, 3) := by decide +kernel
theorem dX9_findThings_23 : decode cX9_findThings 23 = .ok (.iload_n 2, 1) := by decide +kernel
theorem dX9_findThings_24 : decode cX9_findThings 24 = .ok (.bipush (-5), 2) := by decide +kernel
theorem dX9_findThings_26 : decode cX9_findThings 26 = .ok (.iastore, 1) := by decide +kernel
theorem dX9_findThings_27 : decode cX9_findThings 27 = .ok (.iinc 2 1, 3) := by decide +kernel
theorem dX9_findThings_30 : decode cX9_findThings 30 = .ok (.goto (-18), 3) := by decide +kernel
theorem dX9_findThings_33 : decode cX9_findThings 33 = .ok (.iconst 0, 1) := by decide +kernel
theorem dX9_findThings_34 : decode cX9_findThings 34 = .ok (.istore_n 2, 1) := by decide +kernel
theorem dX9_findThings_35 : decode cX9_findThings 35 = .ok (.iload_n 2, 1) := by decide +kernel
theorem dX9_findThings_36 : decode cX9_findThings 36 = .ok (.aload_n 0, 1) := by decide +kernel
theorem dX9_findThings_37 : decode cX9_findThings 37 = .ok (.getfield 15, 3) := by decide +kernel
theorem dX9_findThings_40 : decode cX9_findThings 40 = .ok (.if_icmp .ge 61, 3) := by decide +kernel
theorem dX9_findThings_43 : decode cX9_findThings 43 = .ok (.iconst 0, 1) := by decide +kernel
theorem dX9_findThings_44 : decode cX9_findThings 44 = .ok (.istore_n 3, 1) := by decide +kernel
theorem dX9_findThings_45 : decode cX9_findThings 45 = .ok (.iload_n 3, 1) := by decide +kernel
theorem dX9_findThings_46 : decode cX9_findThings 46 = .ok (.aload_n 0, 1) := by decide +kernel
theorem dX9_findThings_47 : decode cX9_findThings 47 = .ok (.getfield 9, 3) := by decide +kernel
theorem dX9_findThings_50 : decode cX9_findThings 50 = .ok (.if_icmp .ge 45, 3) := by decide +kernel
theorem dX9_findThings_53 : decode cX9_findThings 53 = .ok (.aload_n 1, 1) := by decide +kernel
theorem dX9_findThings_54 : decode cX9_findThings 54 = .ok (.iload_n 2, 1) := by decide +kernel
theorem dX9_findThings_55 : decode cX9_findThings 55 = .ok (.iaload, 1) := by decide +kernel
theorem dX9_findThings_56 : decode cX9_findThings 56 = .ok (.iload_n 3, 1) := by decide +kernel
theorem dX9_findThings_57 : decode cX9_findThings 57 = .ok (.ishr, 1) := by decide +kernel
theorem dX9_findThings_58 : decode cX9_findThings 58 = .ok (.iconst 1, 1) := by decide +kernel
theorem dX9_findThings_59 : decode cX9_findThings 59 = .ok (.iand, 1) := by decide +kernel
theorem dX9_findThings_60 : decode cX9_findThings 60 = .ok (.iconst 1, 1) := by decide +kernel
theorem dX9_findThings_61 : decode cX9_findThings 61 = .ok (.if_icmp .ne 28, 3) := by decide +kernel
theorem dX9_findThings_64 : decode cX9_findThings 64 = .ok (.aload_n 0, 1) := by decide +kernel
theorem dX9_findThings_65 : decode cX9_findThings 65 = .ok (.getfield 61, 3) := by decide +kernel
theorem dX9_findThings_68 : decode cX9_findThings 68 = .ok (.bipush 16, 2) := by decide +kernel
theorem dX9_findThings_70 : decode cX9_findThings 70 = .ok (.iload_n 2, 1) := by decide +kernel
theorem dX9_findThings_71 : decode cX9_findThings 71 = .ok (.imul, 1) := by decide +kernel
theorem dX9_findThings_72 : decode cX9_findThings 72 = .ok (.iload_n 3, 1) := by decide +kernel
theorem dX9_findThings_73 : decode cX9_findThings 73 = .ok (.iadd, 1) := by decide +kernel
theorem dX9_findThings_74 : decode cX9_findThings 74 = .ok (.iaload, 1) := by decide +kernel
theorem dX9_findThings_75 : decode cX9_findThings 75 = .ok (.ifCond .ge 14, 3) := by decide +kernel
theorem dX9_findThings_78 : decode cX9_findThings 78 = .ok (.aload_n 0, 1) := by decide +kernel
theorem dX9_findThings_79 : decode cX9_findThings 79 = .ok (.aload_n 1, 1) := by decide +kernel
theorem dX9_findThings_80 : decode cX9_findThings 80 = .ok (.bipush 16, 2) := by decide +kernel
theorem dX9_findThings_82 : decode cX9_findThings 82 = .ok (.iload_n 2, 1) := by decide +kernel
theorem dX9_findThings_83 : decode cX9_findThings 83 = .ok (.imul, 1) := by decide +kernel
theorem dX9_findThings_84 : decode cX9_findThings 84 = .ok (.iload_n 3, 1) := by decide +kernel
theorem dX9_findThings_85 : decode cX9_findThings 85 = .ok (.iadd, 1) := by decide +kernel
theorem dX9_findThings_86 : decode cX9_findThings 86 = .ok (.invokevirtual 228, 3) := by decide +kernel
theorem dX9_findThings_89 : decode cX9_findThings 89 = .ok (.iinc 3 1, 3) := by decide +kernel
theorem dX9_findThings_92 : decode cX9_findThings 92 = .ok (.goto (-47), 3) := by decide +kernel
theorem dX9_findThings_95 : decode cX9_findThings 95 = .ok (.iinc 2 1, 3) := by decide +kernel
theorem dX9_findThings_98 : decode cX9_findThings 98 = .ok (.goto (-63), 3) := by decide +kernel
theorem dX9_findThings_101 : decode cX9_findThings 101 = .ok (.iconst 0, 1) := by decide +kernel
theorem dX9_findThings_102 : decode cX9_findThings 102 = .ok (.istore_n 2, 1) := by decide +kernel
theorem dX9_findThings_103 : decode cX9_findThings 103 = .ok (.iload_n 2, 1) := by decide +kernel
theorem dX9_findThings_104 : decode cX9_findThings 104 = .ok (.aload_n 0, 1) := by decide +kernel
theorem dX9_findThings_105 : decode cX9_findThings 105 = .ok (.getfield 175, 3) := by decide +kernel
theorem dX9_findThings_108 : decode cX9_findThings 108 = .ok (.if_icmp .ge 88, 3) := by decide +kernel
theorem dX9_findThings_111 : decode cX9_findThings 111 = .ok (.iconst 0, 1) := by decide +kernel
theorem dX9_findThings_112 : decode cX9_findThings 112 = .ok (.istore_n 3, 1) := by decide +kernel
theorem dX9_findThings_113 : decode cX9_findThings 113 = .ok (.iload_n 3, 1) := by decide +kernel
theorem dX9_findThings_114 : decode cX9_findThings 114 = .ok (.aload_n 0, 1) := by decide +kernel
theorem dX9_findThings_115 : decode cX9_findThings 115 = .ok (.getfield 178, 3) := by decide +kernel
theorem dX9_findThings_118 : decode cX9_findThings 118 = .ok (.if_icmp .ge 23, 3) := by decide +kernel
theorem dX9_findThings_121 : decode cX9_findThings 121 = .ok (.aload_n 0, 1) := by decide +kernel
theorem dX9_findThings_122 : decode cX9_findThings 122 = .ok (.iload_n 2, 1) := by decide +kernel
theorem dX9_findThings_123 : decode cX9_findThings 123 = .ok (.aload_n 0, 1) := by decide +kernel
theorem dX9_findThings_124 : decode cX9_findThings 124 = .ok (.getfield 76, 3) := by decide +kernel
theorem dX9_findThings_127 : decode cX9_findThings 127 = .ok (.iload_n 3, 1) := by decide +kernel
theorem dX9_findThings_128 : decode cX9_findThings 128 = .ok (.iaload, 1) := by decide +kernel
theorem dX9_findThings_129 : decode cX9_findThings 129 = .ok (.invokevirtual 232, 3) := by decide +kernel
theorem dX9_findThings_132 : decode cX9_findThings 132 = .ok (.ifCond .ne 9, 3) := by decide +kernel
theorem dX9_findThings_135 : decode cX9_findThings 135 = .ok (.iinc 3 1, 3) := by decide +kernel
theorem dX9_findThings_138 : decode cX9_findThings 138 = .ok (.goto (-25), 3) := by decide +kernel
theorem dX9_findThings_141 : decode cX9_findThings 141 = .ok (.iload_n 3, 1) := by decide +kernel
theorem dX9_findThings_142 : decode cX9_findThings 142 = .ok (.aload_n 0, 1) := by decide +kernel
theorem dX9_findThings_143 : decode cX9_findThings 143 = .ok (.getfield 178, 3) := by decide +kernel
theorem dX9_findThings_146 : decode cX9_findThings 146 = .ok (.if_icmp .ne 27, 3) := by decide +kernel
theorem dX9_findThings_149 : decode cX9_findThings 149 = .ok (.aload_n 0, 1) := by decide +kernel
theorem dX9_findThings_150 : decode cX9_findThings 150 = .ok (.getfield 76, 3) := by decide +kernel
theorem dX9_findThings_153 : decode cX9_findThings 153 = .ok (.iload_n 3, 1) := by decide +kernel
theorem dX9_findThings_154 : decode cX9_findThings 154 = .ok (.iload_n 2, 1) := by decide +kernel
theorem dX9_findThings_155 : decode cX9_findThings 155 = .ok (.iastore, 1) := by decide +kernel
theorem dX9_findThings_156 : decode cX9_findThings 156 = .ok (.aload_n 0, 1) := by decide +kernel
theorem dX9_findThings_157 : decode cX9_findThings 157 = .ok (.getfield 79, 3) := by decide +kernel
theorem dX9_findThings_160 : decode cX9_findThings 160 = .ok (.iload_n 3, 1) := by decide +kernel
theorem dX9_findThings_161 : decode cX9_findThings 161 = .ok (.iconst 0, 1) := by decide +kernel
theorem dX9_findThings_162 : decode cX9_findThings 162 = .ok (.iastore, 1) := by decide +kernel
theorem dX9_findThings_163 : decode cX9_findThings 163 = .ok (.aload_n 0, 1) := by decide +kernel
theorem dX9_findThings_164 : decode cX9_findThings 164 = .ok (.dup, 1) := by decide +kernel
theorem dX9_findThings_165 : decode cX9_findThings 165 = .ok (.getfield 178, 3) := by decide +kernel
theorem dX9_findThings_168 : decode cX9_findThings 168 = .ok (.iconst 1, 1) := by decide +kernel
theorem dX9_findThings_169 : decode cX9_findThings 169 = .ok (.iadd, 1) := by decide +kernel
theorem dX9_findThings_170 : decode cX9_findThings 170 = .ok (.putfield 178, 3) := by decide +kernel
theorem dX9_findThings_173 : decode cX9_findThings 173 = .ok (.aload_n 0, 1) := by decide +kernel
theorem dX9_findThings_174 : decode cX9_findThings 174 = .ok (.getfield 79, 3) := by decide +kernel
theorem dX9_findThings_177 : decode cX9_findThings 177 = .ok (.iload_n 3, 1) := by decide +kernel
theorem dX9_findThings_178 : decode cX9_findThings 178 = .ok (.dup2, 1) := by decide +kernel
theorem dX9_findThings_179 : decode cX9_findThings 179 = .ok (.iaload, 1) := by decide +kernel
theorem dX9_findThings_180 : decode cX9_findThings 180 = .ok (.iconst 1, 1) := by decide +kernel
theorem dX9_findThings_181 : decode cX9_findThings 181 = .ok (.iadd, 1) := by decide +kernel
theorem dX9_findThings_182 : decode cX9_findThings 182 = .ok (.iastore, 1) := by decide +kernel
theorem dX9_findThings_183 : decode cX9_findThings 183 = .ok (.aload_n 0, 1) := by decide +kernel
theorem dX9_findThings_184 : decode cX9_findThings 184 = .ok (.getfield 73, 3) := by decide +kernel
theorem dX9_findThings_187 : decode cX9_findThings 187 = .ok (.iload_n 2, 1) := by decide +kernel
theorem dX9_findThings_188 : decode cX9_findThings 188 = .ok (.iload_n 3, 1) := by decide +kernel
theorem dX9_findThings_189 : decode cX9_findThings 189 = .ok (.iastore, 1) := by decide +kernel
theorem dX9_findThings_190 : decode cX9_findThings 190 = .ok (.iinc 2 1, 3) := by decide +kernel
theorem dX9_findThings_193 : decode cX9_findThings 193 = .ok (.goto (-90), 3) := by decide +kernel
theorem dX9_findThings_196 : decode cX9_findThings 196 = .ok (.return_, 1) := by decide +kernel
theorem dX9_told100_0 : decode cX9_told100 0 = .ok (.bipush 100, 2) := by decide +kernel
theorem dX9_told100_2 : decode cX9_told100 2 = .ok (.iload_n 0, 1) := by decide +kernel
theorem dX9_told100_3 : decode cX9_told100 3 = .ok (.bipush 16, 2) := by decide +kernel
theorem dX9_told100_5 : decode cX9_told100 5 = .ok (.irem, 1) := by decide +kernel
theorem dX9_told100_6 : decode cX9_told100 6 = .ok (.imul, 1) := by decide +kernel
theorem dX9_told100_7 : decode cX9_told100 7 = .ok (.iload_n 0, 1) := by decide +kernel
theorem dX9_told100_8 : decode cX9_told100 8 = .ok (.bipush 16, 2) := by decide +kernel
theorem dX9_told100_10 : decode cX9_told100 10 = .ok (.idiv, 1) := by decide +kernel
theorem dX9_told100_11 : decode cX9_told100 11 = .ok (.iadd, 1) := by decide +kernel
theorem dX9_told100_12 : decode cX9_told100 12 = .ok (.ireturn, 1) := by decide +kernel
theorem dX9_thing_0 : decode cX9_thing 0 = .ok (.aload_n 0, 1) := by decide +kernel
theorem dX9_thing_1 : decode cX9_thing 1 = .ok (.aload_n 0, 1) := by decide +kernel
theorem dX9_thing_2 : decode cX9_thing 2 = .ok (.getfield 18, 3) := by decide +kernel
theorem dX9_thing_5 : decode cX9_thing 5 = .ok (.invokevirtual 171, 3) := by decide +kernel
theorem dX9_thing_8 : decode cX9_thing 8 = .ok (.iload_n 1, 1) := by decide +kernel
theorem dX9_thing_9 : decode cX9_thing 9 = .ok (.i2l, 1) := by decide +kernel
theorem dX9_thing_10 : decode cX9_thing 10 = .ok (.lconst 0, 1) := by decide +kernel
theorem dX9_thing_11 : decode cX9_thing 11 = .ok (.aload_n 0, 1) := by decide +kernel
theorem dX9_thing_12 : decode cX9_thing 12 = .ok (.getfield 175, 3) := by decide +kernel
theorem dX9_thing_15 : decode cX9_thing 15 = .ok (.iconst 1, 1) := by decide +kernel
theorem dX9_thing_16 : decode cX9_thing 16 = .ok (.isub, 1) := by decide +kernel
theorem dX9_thing_17 : decode cX9_thing 17 = .ok (.i2l, 1) := by decide +kernel
theorem dX9_thing_18 : decode cX9_thing 18 = .ok (.invokestatic 105, 3) := by decide +kernel
theorem dX9_thing_21 : decode cX9_thing 21 = .ok (.ifCond .eq 15, 3) := by decide +kernel
theorem dX9_thing_24 : decode cX9_thing 24 = .ok (.iload_n 2, 1) := by decide +kernel
theorem dX9_thing_25 : decode cX9_thing 25 = .ok (.i2l, 1) := by decide +kernel
theorem dX9_thing_26 : decode cX9_thing 26 = .ok (.lconst 0, 1) := by decide +kernel
theorem dX9_thing_27 : decode cX9_thing 27 = .ok (.ldc2_w 152, 3) := by decide +kernel
theorem dX9_thing_30 : decode cX9_thing 30 = .ok (.invokestatic 105, 3) := by decide +kernel
theorem dX9_thing_33 : decode cX9_thing 33 = .ok (.ifCond .ne 5, 3) := by decide +kernel
theorem dX9_thing_36 : decode cX9_thing 36 = .ok (.iconst (-1), 1) := by decide +kernel
theorem dX9_thing_37 : decode cX9_thing 37 = .ok (.ireturn, 1) := by decide +kernel
theorem dX9_thing_38 : decode cX9_thing 38 = .ok (.iload_n 2, 1) := by decide +kernel
theorem dX9_thing_39 : decode cX9_thing 39 = .ok (.ifCond .ne 12, 3) := by decide +kernel
theorem dX9_thing_42 : decode cX9_thing 42 = .ok (.aload_n 0, 1) := by decide +kernel
theorem dX9_thing_43 : decode cX9_thing 43 = .ok (.getfield 70, 3) := by decide +kernel
theorem dX9_thing_46 : decode cX9_thing 46 = .ok (.iload_n 1, 1) := by decide +kernel
theorem dX9_thing_47 : decode cX9_thing 47 = .ok (.iaload, 1) := by decide +kernel
theorem dX9_thing_48 : decode cX9_thing 48 = .ok (.goto 26, 3) := by decide +kernel
theorem dX9_thing_51 : decode cX9_thing 51 = .ok (.iload_n 2, 1) := by decide +kernel
theorem dX9_thing_52 : decode cX9_thing 52 = .ok (.iconst 1, 1) := by decide +kernel
theorem dX9_thing_53 : decode cX9_thing 53 = .ok (.if_icmp .ne 15, 3) := by decide +kernel
theorem dX9_thing_56 : decode cX9_thing 56 = .ok (.aload_n 0, 1) := by decide +kernel
theorem dX9_thing_57 : decode cX9_thing 57 = .ok (.getfield 67, 3) := by decide +kernel
theorem dX9_thing_60 : decode cX9_thing 60 = .ok (.iload_n 1, 1) := by decide +kernel
theorem dX9_thing_61 : decode cX9_thing 61 = .ok (.iaload, 1) := by decide +kernel
theorem dX9_thing_62 : decode cX9_thing 62 = .ok (.invokestatic 235, 3) := by decide +kernel
theorem dX9_thing_65 : decode cX9_thing 65 = .ok (.goto 9, 3) := by decide +kernel
theorem dX9_thing_68 : decode cX9_thing 68 = .ok (.aload_n 0, 1) := by decide +kernel
theorem dX9_thing_69 : decode cX9_thing 69 = .ok (.getfield 73, 3) := by decide +kernel
theorem dX9_thing_72 : decode cX9_thing 72 = .ok (.iload_n 1, 1) := by decide +kernel
theorem dX9_thing_73 : decode cX9_thing 73 = .ok (.iaload, 1) := by decide +kernel
theorem dX9_thing_74 : decode cX9_thing 74 = .ok (.ireturn, 1) := by decide +kernel
theorem dX9_thingAt_0 : decode cX9_thingAt 0 = .ok (.aload_n 0, 1) := by decide +kernel
theorem dX9_thingAt_1 : decode cX9_thingAt 1 = .ok (.iload_n 1, 1) := by decide +kernel
theorem dX9_thingAt_2 : decode cX9_thingAt 2 = .ok (.iload_n 2, 1) := by decide +kernel
theorem dX9_thingAt_3 : decode cX9_thingAt 3 = .ok (.invokevirtual 159, 3) := by decide +kernel
theorem dX9_thingAt_6 : decode cX9_thingAt 6 = .ok (.ifCond .ne 5, 3) := by decide +kernel
theorem dX9_thingAt_9 : decode cX9_thingAt 9 = .ok (.iconst (-1), 1) := by decide +kernel
theorem dX9_thingAt_10 : decode cX9_thingAt 10 = .ok (.ireturn, 1) := by decide +kernel
theorem dX9_thingAt_11 : decode cX9_thingAt 11 = .ok (.aload_n 0, 1) := by decide +kernel
theorem dX9_thingAt_12 : decode cX9_thingAt 12 = .ok (.aload_n 0, 1) := by decide +kernel
theorem dX9_thingAt_13 : decode cX9_thingAt 13 = .ok (.getfield 18, 3) := by decide +kernel
theorem dX9_thingAt_16 : decode cX9_thingAt 16 = .ok (.invokevirtual 171, 3) := by decide +kernel
theorem dX9_thingAt_19 : decode cX9_thingAt 19 = .ok (.aload_n 0, 1) := by decide +kernel
theorem dX9_thingAt_20 : decode cX9_thingAt 20 = .ok (.getfield 61, 3) := by decide +kernel
theorem dX9_thingAt_23 : decode cX9_thingAt 23 = .ok (.bipush 16, 2) := by decide +kernel
theorem dX9_thingAt_25 : decode cX9_thingAt 25 = .ok (.iload_n 2, 1) := by decide +kernel
theorem dX9_thingAt_26 : decode cX9_thingAt 26 = .ok (.imul, 1) := by decide +kernel
theorem dX9_thingAt_27 : decode cX9_thingAt 27 = .ok (.iload_n 1, 1) := by decide +kernel
theorem dX9_thingAt_28 : decode cX9_thingAt 28 = .ok (.iadd, 1) := by decide +kernel
theorem dX9_thingAt_29 : decode cX9_thingAt 29 = .ok (.iaload, 1) := by decide +kernel
theorem dX9_thingAt_30 : decode cX9_thingAt 30 = .ok (.ireturn, 1) := by decide +kernel
theorem dX9_shape_0 : decode cX9_shape 0 = .ok (.aload_n 0, 1) := by decide +kernel
theorem dX9_shape_1 : decode cX9_shape 1 = .ok (.aload_n 0, 1) := by decide +kernel
theorem dX9_shape_2 : decode cX9_shape 2 = .ok (.getfield 18, 3) := by decide +kernel
theorem dX9_shape_5 : decode cX9_shape 5 = .ok (.invokevirtual 171, 3) := by decide +kernel
theorem dX9_shape_8 : decode cX9_shape 8 = .ok (.iload_n 1, 1) := by decide +kernel
theorem dX9_shape_9 : decode cX9_shape 9 = .ok (.i2l, 1) := by decide +kernel
theorem dX9_shape_10 : decode cX9_shape 10 = .ok (.lconst 0, 1) := by decide +kernel
theorem dX9_shape_11 : decode cX9_shape 11 = .ok (.aload_n 0, 1) := by decide +kernel
theorem dX9_shape_12 : decode cX9_shape 12 = .ok (.getfield 178, 3) := by decide +kernel
theorem dX9_shape_15 : decode cX9_shape 15 = .ok (.iconst 1, 1) := by decide +kernel
theorem dX9_shape_16 : decode cX9_shape 16 = .ok (.isub, 1) := by decide +kernel
theorem dX9_shape_17 : decode cX9_shape 17 = .ok (.i2l, 1) := by decide +kernel
theorem dX9_shape_18 : decode cX9_shape 18 = .ok (.invokestatic 105, 3) := by decide +kernel
theorem dX9_shape_21 : decode cX9_shape 21 = .ok (.ifCond .eq 15, 3) := by decide +kernel
theorem dX9_shape_24 : decode cX9_shape 24 = .ok (.iload_n 2, 1) := by decide +kernel
theorem dX9_shape_25 : decode cX9_shape 25 = .ok (.i2l, 1) := by decide +kernel
theorem dX9_shape_26 : decode cX9_shape 26 = .ok (.lconst 0, 1) := by decide +kernel
theorem dX9_shape_27 : decode cX9_shape 27 = .ok (.ldc2_w 152, 3) := by decide +kernel
theorem dX9_shape_30 : decode cX9_shape 30 = .ok (.invokestatic 105, 3) := by decide +kernel
theorem dX9_shape_33 : decode cX9_shape 33 = .ok (.ifCond .ne 5, 3) := by decide +kernel
theorem dX9_shape_36 : decode cX9_shape 36 = .ok (.iconst (-1), 1) := by decide +kernel
theorem dX9_shape_37 : decode cX9_shape 37 = .ok (.ireturn, 1) := by decide +kernel
theorem dX9_shape_38 : decode cX9_shape 38 = .ok (.aload_n 0, 1) := by decide +kernel
theorem dX9_shape_39 : decode cX9_shape 39 = .ok (.getfield 76, 3) := by decide +kernel
theorem dX9_shape_42 : decode cX9_shape 42 = .ok (.iload_n 1, 1) := by decide +kernel
theorem dX9_shape_43 : decode cX9_shape 43 = .ok (.iaload, 1) := by decide +kernel
theorem dX9_shape_44 : decode cX9_shape 44 = .ok (.istore_n 3, 1) := by decide +kernel
theorem dX9_shape_45 : decode cX9_shape 45 = .ok (.iload_n 2, 1) := by decide +kernel
theorem dX9_shape_46 : decode cX9_shape 46 = .ok (.ifCond .ne 12, 3) := by decide +kernel
theorem dX9_shape_49 : decode cX9_shape 49 = .ok (.aload_n 0, 1) := by decide +kernel
theorem dX9_shape_50 : decode cX9_shape 50 = .ok (.getfield 79, 3) := by decide +kernel
theorem dX9_shape_53 : decode cX9_shape 53 = .ok (.iload_n 1, 1) := by decide +kernel
theorem dX9_shape_54 : decode cX9_shape 54 = .ok (.iaload, 1) := by decide +kernel
theorem dX9_shape_55 : decode cX9_shape 55 = .ok (.goto 26, 3) := by decide +kernel
theorem dX9_shape_58 : decode cX9_shape 58 = .ok (.iload_n 2, 1) := by decide +kernel
theorem dX9_shape_59 : decode cX9_shape 59 = .ok (.iconst 1, 1) := by decide +kernel
theorem dX9_shape_60 : decode cX9_shape 60 = .ok (.if_icmp .ne 12, 3) := by decide +kernel
theorem dX9_shape_63 : decode cX9_shape 63 = .ok (.aload_n 0, 1) := by decide +kernel
theorem dX9_shape_64 : decode cX9_shape 64 = .ok (.getfield 70, 3) := by decide +kernel
theorem dX9_shape_67 : decode cX9_shape 67 = .ok (.iload_n 3, 1) := by decide +kernel
theorem dX9_shape_68 : decode cX9_shape 68 = .ok (.iaload, 1) := by decide +kernel
theorem dX9_shape_69 : decode cX9_shape 69 = .ok (.goto 12, 3) := by decide +kernel
theorem dX9_shape_72 : decode cX9_shape 72 = .ok (.aload_n 0, 1) := by decide +kernel
theorem dX9_shape_73 : decode cX9_shape 73 = .ok (.getfield 67, 3) := by decide +kernel
theorem dX9_shape_76 : decode cX9_shape 76 = .ok (.iload_n 3, 1) := by decide +kernel
theorem dX9_shape_77 : decode cX9_shape 77 = .ok (.iaload, 1) := by decide +kernel
theorem dX9_shape_78 : decode cX9_shape 78 = .ok (.invokestatic 235, 3) := by decide +kernel
theorem dX9_shape_81 : decode cX9_shape 81 = .ok (.ireturn, 1) := by decide +kernel
theorem dX9_feed_0 : decode cX9_feed 0 = .ok (.iload_n 1, 1) := by decide +kernel
theorem dX9_feed_1 : decode cX9_feed 1 = .ok (.i2l, 1) := by decide +kernel
theorem dX9_feed_2 : decode cX9_feed 2 = .ok (.lconst 1, 1) := by decide +kernel
theorem dX9_feed_3 : decode cX9_feed 3 = .ok (.ldc2_w 238, 3) := by decide +kernel
theorem dX9_feed_6 : decode cX9_feed 6 = .ok (.invokestatic 105, 3) := by decide +kernel
theorem dX9_feed_9 : decode cX9_feed 9 = .ok (.ifCond .ne 6, 3) := by decide +kernel
theorem dX9_feed_12 : decode cX9_feed 12 = .ok (.bipush (-2), 2) := by decide +kernel
theorem dX9_feed_14 : decode cX9_feed 14 = .ok (.ireturn, 1) := by decide +kernel
theorem dX9_feed_15 : decode cX9_feed 15 = .ok (.aload_n 0, 1) := by decide +kernel
theorem dX9_feed_16 : decode cX9_feed 16 = .ok (.getfield 240, 3) := by decide +kernel
theorem dX9_feed_19 : decode cX9_feed 19 = .ok (.sipush 300, 3) := by decide +kernel
theorem dX9_feed_22 : decode cX9_feed 22 = .ok (.if_icmp .ne 6, 3) := by decide +kernel
theorem dX9_feed_25 : decode cX9_feed 25 = .ok (.bipush (-4), 2) := by decide +kernel
theorem dX9_feed_27 : decode cX9_feed 27 = .ok (.ireturn, 1) := by decide +kernel
theorem dX9_feed_28 : decode cX9_feed 28 = .ok (.aload_n 0, 1) := by decide +kernel
theorem dX9_feed_29 : decode cX9_feed 29 = .ok (.getfield 82, 3) := by decide +kernel
theorem dX9_feed_32 : decode cX9_feed 32 = .ok (.aload_n 0, 1) := by decide +kernel
theorem dX9_feed_33 : decode cX9_feed 33 = .ok (.getfield 240, 3) := by decide +kernel
theorem dX9_feed_36 : decode cX9_feed 36 = .ok (.iload_n 1, 1) := by decide +kernel
theorem dX9_feed_37 : decode cX9_feed 37 = .ok (.iastore, 1) := by decide +kernel
theorem dX9_feed_38 : decode cX9_feed 38 = .ok (.aload_n 0, 1) := by decide +kernel
theorem dX9_feed_39 : decode cX9_feed 39 = .ok (.dup, 1) := by decide +kernel
theorem dX9_feed_40 : decode cX9_feed 40 = .ok (.getfield 240, 3) := by decide +kernel
theorem dX9_feed_43 : decode cX9_feed 43 = .ok (.iconst 1, 1) := by decide +kernel
theorem dX9_feed_44 : decode cX9_feed 44 = .ok (.iadd, 1) := by decide +kernel
theorem dX9_feed_45 : decode cX9_feed 45 = .ok (.putfield 240, 3) := by decide +kernel
theorem dX9_feed_48 : decode cX9_feed 48 = .ok (.aload_n 0, 1) := by decide +kernel
theorem dX9_feed_49 : decode cX9_feed 49 = .ok (.getfield 240, 3) := by decide +kernel
theorem dX9_feed_52 : decode cX9_feed 52 = .ok (.ireturn, 1) := by decide +kernel
theorem dX9_reads_0 : decode cX9_reads 0 = .ok (.iconst 0, 1) := by decide +kernel
theorem dX9_reads_1 : decode cX9_reads 1 = .ok (.istore_n 1, 1) := by decide +kernel
theorem dX9_reads_2 : decode cX9_reads 2 = .ok (.aload_n 0, 1) := by decide +kernel
theorem dX9_reads_3 : decode cX9_reads 3 = .ok (.bipush 16, 2) := by decide +kernel
theorem dX9_reads_5 : decode cX9_reads 5 = .ok (.putfield 243, 3) := by decide +kernel
theorem dX9_reads_8 : decode cX9_reads 8 = .ok (.aload_n 0, 1) := by decide +kernel
theorem dX9_reads_9 : decode cX9_reads 9 = .ok (.iconst 0, 1) := by decide +kernel
theorem dX9_reads_10 : decode cX9_reads 10 = .ok (.putfield 246, 3) := by decide +kernel
theorem dX9_reads_13 : decode cX9_reads 13 = .ok (.iconst 1, 1) := by decide +kernel
theorem dX9_reads_14 : decode cX9_reads 14 = .ok (.istore_n 2, 1) := by decide +kernel
theorem dX9_reads_15 : decode cX9_reads 15 = .ok (.iload_n 2, 1) := by decide +kernel
theorem dX9_reads_16 : decode cX9_reads 16 = .ok (.ifCond .eq 177, 3) := by decide +kernel
theorem dX9_reads_19 : decode cX9_reads 19 = .ok (.iconst 0, 1) := by decide +kernel
theorem dX9_reads_20 : decode cX9_reads 20 = .ok (.istore_n 3, 1) := by decide +kernel
theorem dX9_reads_21 : decode cX9_reads 21 = .ok (.aload_n 0, 1) := by decide +kernel
theorem dX9_reads_22 : decode cX9_reads 22 = .ok (.getfield 85, 3) := by decide +kernel
theorem dX9_reads_25 : decode cX9_reads 25 = .ok (.aload_n 0, 1) := by decide +kernel
theorem dX9_reads_26 : decode cX9_reads 26 = .ok (.getfield 246, 3) := by decide +kernel
theorem dX9_reads_29 : decode cX9_reads 29 = .ok (.iconst 0, 1) := by decide +kernel
theorem dX9_reads_30 : decode cX9_reads 30 = .ok (.iastore, 1) := by decide +kernel
theorem dX9_reads_31 : decode cX9_reads 31 = .ok (.iload_n 1, 1) := by decide +kernel
theorem dX9_reads_32 : decode cX9_reads 32 = .ok (.aload_n 0, 1) := by decide +kernel
theorem dX9_reads_33 : decode cX9_reads 33 = .ok (.getfield 240, 3) := by decide +kernel
theorem dX9_reads_36 : decode cX9_reads 36 = .ok (.if_icmp .ge 72, 3) := by decide +kernel
theorem dX9_reads_39 : decode cX9_reads 39 = .ok (.iload_n 3, 1) := by decide +kernel
theorem dX9_reads_40 : decode cX9_reads 40 = .ok (.aload_n 0, 1) := by decide +kernel
theorem dX9_reads_41 : decode cX9_reads 41 = .ok (.getfield 243, 3) := by decide +kernel
theorem dX9_reads_44 : decode cX9_reads 44 = .ok (.if_icmp .ge 64, 3) := by decide +kernel
theorem dX9_reads_47 : decode cX9_reads 47 = .ok (.aload_n 0, 1) := by decide +kernel
theorem dX9_reads_48 : decode cX9_reads 48 = .ok (.getfield 82, 3) := by decide +kernel
theorem dX9_reads_51 : decode cX9_reads 51 = .ok (.iload_n 1, 1) := by decide +kernel
theorem dX9_reads_52 : decode cX9_reads 52 = .ok (.iaload, 1) := by decide +kernel
theorem dX9_reads_53 : decode cX9_reads 53 = .ok (.bipush 46, 2) := by decide +kernel
theorem dX9_reads_55 : decode cX9_reads 55 = .ok (.if_icmp .eq 14, 3) := by decide +kernel
theorem dX9_reads_58 : decode cX9_reads 58 = .ok (.aload_n 0, 1) := by decide +kernel
theorem dX9_reads_59 : decode cX9_reads 59 = .ok (.getfield 82, 3) := by decide +kernel
theorem dX9_reads_62 : decode cX9_reads 62 = .ok (.iload_n 1, 1) := by decide +kernel
theorem dX9_reads_63 : decode cX9_reads 63 = .ok (.iaload, 1) := by decide +kernel
theorem dX9_reads_64 : decode cX9_reads 64 = .ok (.bipush 35, 2) := by decide +kernel
theorem dX9_reads_66 : decode cX9_reads 66 = .ok (.if_icmp .ne 42, 3) := by decide +kernel
theorem dX9_reads_69 : decode cX9_reads 69 = .ok (.aload_n 0, 1) := by decide +kernel
theorem dX9_reads_70 : decode cX9_reads 70 = .ok (.getfield 85, 3) := by decide +kernel
theorem dX9_reads_73 : decode cX9_reads 73 = .ok (.aload_n 0, 1) := by decide +kernel
theorem dX9_reads_74 : decode cX9_reads 74 = .ok (.getfield 246, 3) := by decide +kernel
theorem dX9_reads_77 : decode cX9_reads 77 = .ok (.dup2, 1) := by decide +kernel
theorem dX9_reads_78 : decode cX9_reads 78 = .ok (.iaload, 1) := by decide +kernel
theorem dX9_reads_79 : decode cX9_reads 79 = .ok (.aload_n 0, 1) := by decide +kernel
theorem dX9_reads_80 : decode cX9_reads 80 = .ok (.getfield 82, 3) := by decide +kernel
theorem dX9_reads_83 : decode cX9_reads 83 = .ok (.iload_n 1, 1) := by decide +kernel
theorem dX9_reads_84 : decode cX9_reads 84 = .ok (.iaload, 1) := by decide +kernel
theorem dX9_reads_85 : decode cX9_reads 85 = .ok (.bipush 35, 2) := by decide +kernel
theorem dX9_reads_87 : decode cX9_reads 87 = .ok (.if_icmp .ne 9, 3) := by decide +kernel
theorem dX9_reads_90 : decode cX9_reads 90 = .ok (.iconst 1, 1) := by decide +kernel
theorem dX9_reads_91 : decode cX9_reads 91 = .ok (.iload_n 3, 1) := by decide +kernel
theorem dX9_reads_92 : decode cX9_reads 92 = .ok (.ishl, 1) := by decide +kernel
theorem dX9_reads_93 : decode cX9_reads 93 = .ok (.goto 4, 3) := by decide +kernel
theorem dX9_reads_96 : decode cX9_reads 96 = .ok (.iconst 0, 1) := by decide +kernel
theorem dX9_reads_97 : decode cX9_reads 97 = .ok (.ior, 1) := by decide +kernel
theorem dX9_reads_98 : decode cX9_reads 98 = .ok (.iastore, 1) := by decide +kernel
theorem dX9_reads_99 : decode cX9_reads 99 = .ok (.iinc 1 1, 3) := by decide +kernel
theorem dX9_reads_102 : decode cX9_reads 102 = .ok (.iinc 3 1, 3) := by decide +kernel
theorem dX9_reads_105 : decode cX9_reads 105 = .ok (.goto (-74), 3) := by decide +kernel
theorem dX9_reads_108 : decode cX9_reads 108 = .ok (.iload_n 3, 1) := by decide +kernel
theorem dX9_reads_109 : decode cX9_reads 109 = .ok (.ifCond .eq 18, 3) := by decide +kernel
theorem dX9_reads_112 : decode cX9_reads 112 = .ok (.aload_n 0, 1) := by decide +kernel
theorem dX9_reads_113 : decode cX9_reads 113 = .ok (.getfield 246, 3) := by decide +kernel
theorem dX9_reads_116 : decode cX9_reads 116 = .ok (.ifCond .le 13, 3) := by decide +kernel
theorem dX9_reads_119 : decode cX9_reads 119 = .ok (.iload_n 3, 1) := by decide +kernel
theorem dX9_reads_120 : decode cX9_reads 120 = .ok (.aload_n 0, 1) := by decide +kernel
theorem dX9_reads_121 : decode cX9_reads 121 = .ok (.getfield 243, 3) := by decide +kernel
theorem dX9_reads_124 : decode cX9_reads 124 = .ok (.if_icmp .ge 5, 3) := by decide +kernel
theorem dX9_reads_127 : decode cX9_reads 127 = .ok (.iload_n 1, 1) := by decide +kernel
theorem dX9_reads_128 : decode cX9_reads 128 = .ok (.ireturn, 1) := by decide +kernel
theorem dX9_reads_129 : decode cX9_reads 129 = .ok (.aload_n 0, 1) := by decide +kernel
theorem dX9_reads_130 : decode cX9_reads 130 = .ok (.iload_n 3, 1) := by decide +kernel
theorem dX9_reads_131 : decode cX9_reads 131 = .ok (.putfield 243, 3) := by decide +kernel
theorem dX9_reads_134 : decode cX9_reads 134 = .ok (.aload_n 0, 1) := by decide +kernel
theorem dX9_reads_135 : decode cX9_reads 135 = .ok (.dup, 1) := by decide +kernel
theorem dX9_reads_136 : decode cX9_reads 136 = .ok (.getfield 246, 3) := by decide +kernel
theorem dX9_reads_139 : decode cX9_reads 139 = .ok (.iconst 1, 1) := by decide +kernel
theorem dX9_reads_140 : decode cX9_reads 140 = .ok (.iadd, 1) := by decide +kernel
theorem dX9_reads_141 : decode cX9_reads 141 = .ok (.putfield 246, 3) := by decide +kernel
theorem dX9_reads_144 : decode cX9_reads 144 = .ok (.iload_n 1, 1) := by decide +kernel
theorem dX9_reads_145 : decode cX9_reads 145 = .ok (.aload_n 0, 1) := by decide +kernel
theorem dX9_reads_146 : decode cX9_reads 146 = .ok (.getfield 240, 3) := by decide +kernel
theorem dX9_reads_149 : decode cX9_reads 149 = .ok (.if_icmp .ge 27, 3) := by decide +kernel
theorem dX9_reads_152 : decode cX9_reads 152 = .ok (.aload_n 0, 1) := by decide +kernel
theorem dX9_reads_153 : decode cX9_reads 153 = .ok (.getfield 82, 3) := by decide +kernel
theorem dX9_reads_156 : decode cX9_reads 156 = .ok (.iload_n 1, 1) := by decide +kernel
theorem dX9_reads_157 : decode cX9_reads 157 = .ok (.iaload, 1) := by decide +kernel
theorem dX9_reads_158 : decode cX9_reads 158 = .ok (.bipush 47, 2) := by decide +kernel
theorem dX9_reads_160 : decode cX9_reads 160 = .ok (.if_icmp .ne 16, 3) := by decide +kernel
theorem dX9_reads_163 : decode cX9_reads 163 = .ok (.aload_n 0, 1) := by decide +kernel
theorem dX9_reads_164 : decode cX9_reads 164 = .ok (.getfield 246, 3) := by decide +kernel
theorem dX9_reads_167 : decode cX9_reads 167 = .ok (.bipush 16, 2) := by decide +kernel
theorem dX9_reads_169 : decode cX9_reads 169 = .ok (.if_icmp .ge 7, 3) := by decide +kernel
theorem dX9_reads_172 : decode cX9_reads 172 = .ok (.iconst 1, 1) := by decide +kernel
theorem dX9_reads_173 : decode cX9_reads 173 = .ok (.goto 4, 3) := by decide +kernel
theorem dX9_reads_176 : decode cX9_reads 176 = .ok (.iconst 0, 1) := by decide +kernel
theorem dX9_reads_177 : decode cX9_reads 177 = .ok (.istore_n 2, 1) := by decide +kernel
theorem dX9_reads_178 : decode cX9_reads 178 = .ok (.iload_n 1, 1) := by decide +kernel
theorem dX9_reads_179 : decode cX9_reads 179 = .ok (.iload_n 2, 1) := by decide +kernel
theorem dX9_reads_180 : decode cX9_reads 180 = .ok (.ifCond .eq 7, 3) := by decide +kernel
theorem dX9_reads_183 : decode cX9_reads 183 = .ok (.iconst 1, 1) := by decide +kernel
theorem dX9_reads_184 : decode cX9_reads 184 = .ok (.goto 4, 3) := by decide +kernel
theorem dX9_reads_187 : decode cX9_reads 187 = .ok (.iconst 0, 1) := by decide +kernel
theorem dX9_reads_188 : decode cX9_reads 188 = .ok (.iadd, 1) := by decide +kernel
theorem dX9_reads_189 : decode cX9_reads 189 = .ok (.istore_n 1, 1) := by decide +kernel
theorem dX9_reads_190 : decode cX9_reads 190 = .ok (.goto (-175), 3) := by decide +kernel
theorem dX9_reads_193 : decode cX9_reads 193 = .ok (.iload_n 1, 1) := by decide +kernel
theorem dX9_reads_194 : decode cX9_reads 194 = .ok (.aload_n 0, 1) := by decide +kernel
theorem dX9_reads_195 : decode cX9_reads 195 = .ok (.getfield 240, 3) := by decide +kernel
theorem dX9_reads_198 : decode cX9_reads 198 = .ok (.if_icmp .ge 7, 3) := by decide +kernel
theorem dX9_reads_201 : decode cX9_reads 201 = .ok (.iload_n 1, 1) := by decide +kernel
theorem dX9_reads_202 : decode cX9_reads 202 = .ok (.goto 4, 3) := by decide +kernel
theorem dX9_reads_205 : decode cX9_reads 205 = .ok (.iconst (-1), 1) := by decide +kernel
theorem dX9_reads_206 : decode cX9_reads 206 = .ok (.ireturn, 1) := by decide +kernel
theorem dX9_read_0 : decode cX9_read 0 = .ok (.aload_n 0, 1) := by decide +kernel
theorem dX9_read_1 : decode cX9_read 1 = .ok (.invokevirtual 249, 3) := by decide +kernel
theorem dX9_read_4 : decode cX9_read 4 = .ok (.istore_n 1, 1) := by decide +kernel
theorem dX9_read_5 : decode cX9_read 5 = .ok (.aload_n 0, 1) := by decide +kernel
theorem dX9_read_6 : decode cX9_read 6 = .ok (.iconst 0, 1) := by decide +kernel
theorem dX9_read_7 : decode cX9_read 7 = .ok (.putfield 240, 3) := by decide +kernel
theorem dX9_read_10 : decode cX9_read 10 = .ok (.iload_n 1, 1) := by decide +kernel
theorem dX9_read_11 : decode cX9_read 11 = .ok (.ifCond .lt 8, 3) := by decide +kernel
theorem dX9_read_14 : decode cX9_read 14 = .ok (.bipush (-100), 2) := by decide +kernel
theorem dX9_read_16 : decode cX9_read 16 = .ok (.iload_n 1, 1) := by decide +kernel
theorem dX9_read_17 : decode cX9_read 17 = .ok (.isub, 1) := by decide +kernel
theorem dX9_read_18 : decode cX9_read 18 = .ok (.ireturn, 1) := by decide +kernel
theorem dX9_read_19 : decode cX9_read 19 = .ok (.aload_n 0, 1) := by decide +kernel
theorem dX9_read_20 : decode cX9_read 20 = .ok (.getfield 243, 3) := by decide +kernel
theorem dX9_read_23 : decode cX9_read 23 = .ok (.iconst 2, 1) := by decide +kernel
theorem dX9_read_24 : decode cX9_read 24 = .ok (.irem, 1) := by decide +kernel
theorem dX9_read_25 : decode cX9_read 25 = .ok (.ifCond .ne 12, 3) := by decide +kernel
theorem dX9_read_28 : decode cX9_read 28 = .ok (.aload_n 0, 1) := by decide +kernel
theorem dX9_read_29 : decode cX9_read 29 = .ok (.getfield 246, 3) := by decide +kernel
theorem dX9_read_32 : decode cX9_read 32 = .ok (.iconst 2, 1) := by decide +kernel
theorem dX9_read_33 : decode cX9_read 33 = .ok (.irem, 1) := by decide +kernel
theorem dX9_read_34 : decode cX9_read 34 = .ok (.ifCond .eq 7, 3) := by decide +kernel
theorem dX9_read_37 : decode cX9_read 37 = .ok (.sipush (-500), 3) := by decide +kernel
theorem dX9_read_40 : decode cX9_read 40 = .ok (.ireturn, 1) := by decide +kernel
theorem dX9_read_41 : decode cX9_read 41 = .ok (.aload_n 0, 1) := by decide +kernel
theorem dX9_read_42 : decode cX9_read 42 = .ok (.aload_n 0, 1) := by decide +kernel
theorem dX9_read_43 : decode cX9_read 43 = .ok (.getfield 243, 3) := by decide +kernel
theorem dX9_read_46 : decode cX9_read 46 = .ok (.putfield 9, 3) := by decide +kernel
theorem dX9_read_49 : decode cX9_read 49 = .ok (.aload_n 0, 1) := by decide +kernel
theorem dX9_read_50 : decode cX9_read 50 = .ok (.aload_n 0, 1) := by decide +kernel
theorem dX9_read_51 : decode cX9_read 51 = .ok (.getfield 246, 3) := by decide +kernel
theorem dX9_read_54 : decode cX9_read 54 = .ok (.putfield 15, 3) := by decide +kernel
theorem dX9_read_57 : decode cX9_read 57 = .ok (.iconst 0, 1) := by decide +kernel
theorem dX9_read_58 : decode cX9_read 58 = .ok (.istore_n 2, 1) := by decide +kernel
theorem dX9_read_59 : decode cX9_read 59 = .ok (.iload_n 2, 1) := by decide +kernel
theorem dX9_read_60 : decode cX9_read 60 = .ok (.bipush 16, 2) := by decide +kernel
theorem dX9_read_62 : decode cX9_read 62 = .ok (.if_icmp .ge 33, 3) := by decide +kernel
theorem dX9_read_65 : decode cX9_read 65 = .ok (.aload_n 0, 1) := by decide +kernel
theorem dX9_read_66 : decode cX9_read 66 = .ok (.getfield 18, 3) := by decide +kernel
theorem dX9_read_69 : decode cX9_read 69 = .ok (.iload_n 2, 1) := by decide +kernel
theorem dX9_read_70 : decode cX9_read 70 = .ok (.iload_n 2, 1) := by decide +kernel
theorem dX9_read_71 : decode cX9_read 71 = .ok (.aload_n 0, 1) := by decide +kernel
theorem dX9_read_72 : decode cX9_read 72 = .ok (.getfield 15, 3) := by decide +kernel
theorem dX9_read_75 : decode cX9_read 75 = .ok (.if_icmp .ge 12, 3) := by decide +kernel
theorem dX9_read_78 : decode cX9_read 78 = .ok (.aload_n 0, 1) := by decide +kernel
theorem dX9_read_79 : decode cX9_read 79 = .ok (.getfield 85, 3) := by decide +kernel
theorem dX9_read_82 : decode cX9_read 82 = .ok (.iload_n 2, 1) := by decide +kernel
theorem dX9_read_83 : decode cX9_read 83 = .ok (.iaload, 1) := by decide +kernel
theorem dX9_read_84 : decode cX9_read 84 = .ok (.goto 4, 3) := by decide +kernel
theorem dX9_read_87 : decode cX9_read 87 = .ok (.iconst 0, 1) := by decide +kernel
theorem dX9_read_88 : decode cX9_read 88 = .ok (.iastore, 1) := by decide +kernel
theorem dX9_read_89 : decode cX9_read 89 = .ok (.iinc 2 1, 3) := by decide +kernel
theorem dX9_read_92 : decode cX9_read 92 = .ok (.goto (-33), 3) := by decide +kernel
theorem dX9_read_95 : decode cX9_read 95 = .ok (.aload_n 0, 1) := by decide +kernel
theorem dX9_read_96 : decode cX9_read 96 = .ok (.iconst 0, 1) := by decide +kernel
theorem dX9_read_97 : decode cX9_read 97 = .ok (.putfield 156, 3) := by decide +kernel
theorem dX9_read_100 : decode cX9_read 100 = .ok (.aload_n 0, 1) := by decide +kernel
theorem dX9_read_101 : decode cX9_read 101 = .ok (.aload_n 0, 1) := by decide +kernel
theorem dX9_read_102 : decode cX9_read 102 = .ok (.getfield 18, 3) := by decide +kernel
theorem dX9_read_105 : decode cX9_read 105 = .ok (.invokevirtual 163, 3) := by decide +kernel
theorem dX9_read_108 : decode cX9_read 108 = .ok (.ireturn, 1) := by decide +kernel
theorem dX9_spell_0 : decode cX9_spell 0 = .ok (.aload_n 0, 1) := by decide +kernel
theorem dX9_spell_1 : decode cX9_spell 1 = .ok (.iconst 0, 1) := by decide +kernel
theorem dX9_spell_2 : decode cX9_spell 2 = .ok (.putfield 252, 3) := by decide +kernel
theorem dX9_spell_5 : decode cX9_spell 5 = .ok (.iconst 0, 1) := by decide +kernel
theorem dX9_spell_6 : decode cX9_spell 6 = .ok (.istore_n 1, 1) := by decide +kernel
theorem dX9_spell_7 : decode cX9_spell 7 = .ok (.iload_n 1, 1) := by decide +kernel
theorem dX9_spell_8 : decode cX9_spell 8 = .ok (.aload_n 0, 1) := by decide +kernel
theorem dX9_spell_9 : decode cX9_spell 9 = .ok (.getfield 15, 3) := by decide +kernel
theorem dX9_spell_12 : decode cX9_spell 12 = .ok (.if_icmp .ge 90, 3) := by decide +kernel
theorem dX9_spell_15 : decode cX9_spell 15 = .ok (.iload_n 1, 1) := by decide +kernel
theorem dX9_spell_16 : decode cX9_spell 16 = .ok (.ifCond .le 24, 3) := by decide +kernel
theorem dX9_spell_19 : decode cX9_spell 19 = .ok (.aload_n 0, 1) := by decide +kernel
theorem dX9_spell_20 : decode cX9_spell 20 = .ok (.getfield 88, 3) := by decide +kernel
theorem dX9_spell_23 : decode cX9_spell 23 = .ok (.aload_n 0, 1) := by decide +kernel
theorem dX9_spell_24 : decode cX9_spell 24 = .ok (.getfield 252, 3) := by decide +kernel
theorem dX9_spell_27 : decode cX9_spell 27 = .ok (.bipush 47, 2) := by decide +kernel
theorem dX9_spell_29 : decode cX9_spell 29 = .ok (.iastore, 1) := by decide +kernel
theorem dX9_spell_30 : decode cX9_spell 30 = .ok (.aload_n 0, 1) := by decide +kernel
theorem dX9_spell_31 : decode cX9_spell 31 = .ok (.dup, 1) := by decide +kernel
theorem dX9_spell_32 : decode cX9_spell 32 = .ok (.getfield 252, 3) := by decide +kernel
theorem dX9_spell_35 : decode cX9_spell 35 = .ok (.iconst 1, 1) := by decide +kernel
theorem dX9_spell_36 : decode cX9_spell 36 = .ok (.iadd, 1) := by decide +kernel
theorem dX9_spell_37 : decode cX9_spell 37 = .ok (.putfield 252, 3) := by decide +kernel
theorem dX9_spell_40 : decode cX9_spell 40 = .ok (.iconst 0, 1) := by decide +kernel
theorem dX9_spell_41 : decode cX9_spell 41 = .ok (.istore_n 2, 1) := by decide +kernel
theorem dX9_spell_42 : decode cX9_spell 42 = .ok (.iload_n 2, 1) := by decide +kernel
theorem dX9_spell_43 : decode cX9_spell 43 = .ok (.aload_n 0, 1) := by decide +kernel
theorem dX9_spell_44 : decode cX9_spell 44 = .ok (.getfield 9, 3) := by decide +kernel
theorem dX9_spell_47 : decode cX9_spell 47 = .ok (.if_icmp .ge 49, 3) := by decide +kernel
theorem dX9_spell_50 : decode cX9_spell 50 = .ok (.aload_n 0, 1) := by decide +kernel
theorem dX9_spell_51 : decode cX9_spell 51 = .ok (.getfield 88, 3) := by decide +kernel
theorem dX9_spell_54 : decode cX9_spell 54 = .ok (.aload_n 0, 1) := by decide +kernel
theorem dX9_spell_55 : decode cX9_spell 55 = .ok (.getfield 252, 3) := by decide +kernel
theorem dX9_spell_58 : decode cX9_spell 58 = .ok (.aload_n 0, 1) := by decide +kernel
theorem dX9_spell_59 : decode cX9_spell 59 = .ok (.getfield 18, 3) := by decide +kernel
theorem dX9_spell_62 : decode cX9_spell 62 = .ok (.iload_n 1, 1) := by decide +kernel
theorem dX9_spell_63 : decode cX9_spell 63 = .ok (.iaload, 1) := by decide +kernel
theorem dX9_spell_64 : decode cX9_spell 64 = .ok (.iload_n 2, 1) := by decide +kernel
theorem dX9_spell_65 : decode cX9_spell 65 = .ok (.ishr, 1) := by decide +kernel
theorem dX9_spell_66 : decode cX9_spell 66 = .ok (.iconst 1, 1) := by decide +kernel
theorem dX9_spell_67 : decode cX9_spell 67 = .ok (.iand, 1) := by decide +kernel
theorem dX9_spell_68 : decode cX9_spell 68 = .ok (.iconst 1, 1) := by decide +kernel
theorem dX9_spell_69 : decode cX9_spell 69 = .ok (.if_icmp .ne 8, 3) := by decide +kernel
theorem dX9_spell_72 : decode cX9_spell 72 = .ok (.bipush 35, 2) := by decide +kernel
theorem dX9_spell_74 : decode cX9_spell 74 = .ok (.goto 5, 3) := by decide +kernel
theorem dX9_spell_77 : decode cX9_spell 77 = .ok (.bipush 46, 2) := by decide +kernel
theorem dX9_spell_79 : decode cX9_spell 79 = .ok (.iastore, 1) := by decide +kernel
theorem dX9_spell_80 : decode cX9_spell 80 = .ok (.aload_n 0, 1) := by decide +kernel
theorem dX9_spell_81 : decode cX9_spell 81 = .ok (.dup, 1) := by decide +kernel
theorem dX9_spell_82 : decode cX9_spell 82 = .ok (.getfield 252, 3) := by decide +kernel
theorem dX9_spell_85 : decode cX9_spell 85 = .ok (.iconst 1, 1) := by decide +kernel
theorem dX9_spell_86 : decode cX9_spell 86 = .ok (.iadd, 1) := by decide +kernel
theorem dX9_spell_87 : decode cX9_spell 87 = .ok (.putfield 252, 3) := by decide +kernel
theorem dX9_spell_90 : decode cX9_spell 90 = .ok (.iinc 2 1, 3) := by decide +kernel
theorem dX9_spell_93 : decode cX9_spell 93 = .ok (.goto (-51), 3) := by decide +kernel
theorem dX9_spell_96 : decode cX9_spell 96 = .ok (.iinc 1 1, 3) := by decide +kernel
theorem dX9_spell_99 : decode cX9_spell 99 = .ok (.goto (-92), 3) := by decide +kernel
theorem dX9_spell_102 : decode cX9_spell 102 = .ok (.aload_n 0, 1) := by decide +kernel
theorem dX9_spell_103 : decode cX9_spell 103 = .ok (.getfield 252, 3) := by decide +kernel
theorem dX9_spell_106 : decode cX9_spell 106 = .ok (.ireturn, 1) := by decide +kernel
theorem dX9_paper_0 : decode cX9_paper 0 = .ok (.iload_n 1, 1) := by decide +kernel
theorem dX9_paper_1 : decode cX9_paper 1 = .ok (.ifCond .ge 7, 3) := by decide +kernel
theorem dX9_paper_4 : decode cX9_paper 4 = .ok (.iconst (-1), 1) := by decide +kernel
theorem dX9_paper_5 : decode cX9_paper 5 = .ok (.goto 22, 3) := by decide +kernel
theorem dX9_paper_8 : decode cX9_paper 8 = .ok (.iload_n 1, 1) := by decide +kernel
theorem dX9_paper_9 : decode cX9_paper 9 = .ok (.aload_n 0, 1) := by decide +kernel
theorem dX9_paper_10 : decode cX9_paper 10 = .ok (.getfield 252, 3) := by decide +kernel
theorem dX9_paper_13 : decode cX9_paper 13 = .ok (.if_icmp .ge 12, 3) := by decide +kernel
theorem dX9_paper_16 : decode cX9_paper 16 = .ok (.aload_n 0, 1) := by decide +kernel
theorem dX9_paper_17 : decode cX9_paper 17 = .ok (.getfield 88, 3) := by decide +kernel
theorem dX9_paper_20 : decode cX9_paper 20 = .ok (.iload_n 1, 1) := by decide +kernel
theorem dX9_paper_21 : decode cX9_paper 21 = .ok (.iaload, 1) := by decide +kernel
theorem dX9_paper_22 : decode cX9_paper 22 = .ok (.goto 5, 3) := by decide +kernel
theorem dX9_paper_25 : decode cX9_paper 25 = .ok (.bipush (-5), 2) := by decide +kernel
theorem dX9_paper_27 : decode cX9_paper 27 = .ok (.ireturn, 1) := by decide +kernel
theorem dX9_isList_0 : decode cX9_isList 0 = .ok (.iload_n 0, 1) := by decide +kernel
theorem dX9_isList_1 : decode cX9_isList 1 = .ok (.i2l, 1) := by decide +kernel
theorem dX9_isList_2 : decode cX9_isList 2 = .ok (.lconst 0, 1) := by decide +kernel
theorem dX9_isList_3 : decode cX9_isList 3 = .ok (.ldc2_w 255, 3) := by decide +kernel
theorem dX9_isList_6 : decode cX9_isList 6 = .ok (.invokestatic 105, 3) := by decide +kernel
theorem dX9_isList_9 : decode cX9_isList 9 = .ok (.ireturn, 1) := by decide +kernel
theorem dX9_list_0 : decode cX9_list 0 = .ok (.iload_n 1, 1) := by decide +kernel
theorem dX9_list_1 : decode cX9_list 1 = .ok (.invokestatic 257, 3) := by decide +kernel
theorem dX9_list_4 : decode cX9_list 4 = .ok (.ifCond .ne 5, 3) := by decide +kernel
theorem dX9_list_7 : decode cX9_list 7 = .ok (.iconst (-1), 1) := by decide +kernel
theorem dX9_list_8 : decode cX9_list 8 = .ok (.ireturn, 1) := by decide +kernel
theorem dX9_list_9 : decode cX9_list 9 = .ok (.iload_n 2, 1) := by decide +kernel
theorem dX9_list_10 : decode cX9_list 10 = .ok (.bipush 20, 2) := by decide +kernel
theorem dX9_list_12 : decode cX9_list 12 = .ok (.if_icmp .le 6, 3) := by decide +kernel
theorem dX9_list_15 : decode cX9_list 15 = .ok (.bipush (-2), 2) := by decide +kernel
theorem dX9_list_17 : decode cX9_list 17 = .ok (.ireturn, 1) := by decide +kernel
theorem dX9_list_18 : decode cX9_list 18 = .ok (.iload_n 2, 1) := by decide +kernel
theorem dX9_list_19 : decode cX9_list 19 = .ok (.ifCond .ge 6, 3) := by decide +kernel
theorem dX9_list_22 : decode cX9_list 22 = .ok (.bipush (-14), 2) := by decide +kernel
theorem dX9_list_24 : decode cX9_list 24 = .ok (.ireturn, 1) := by decide +kernel
theorem dX9_list_25 : decode cX9_list 25 = .ok (.aload_n 0, 1) := by decide +kernel
theorem dX9_list_26 : decode cX9_list 26 = .ok (.getfield 91, 3) := by decide +kernel
theorem dX9_list_29 : decode cX9_list 29 = .ok (.iload_n 1, 1) := by decide +kernel
theorem dX9_list_30 : decode cX9_list 30 = .ok (.iload_n 2, 1) := by decide +kernel
theorem dX9_list_31 : decode cX9_list 31 = .ok (.iastore, 1) := by decide +kernel
theorem dX9_list_32 : decode cX9_list 32 = .ok (.iconst 0, 1) := by decide +kernel
theorem dX9_list_33 : decode cX9_list 33 = .ok (.istore_n 3, 1) := by decide +kernel
theorem dX9_list_34 : decode cX9_list 34 = .ok (.iload_n 3, 1) := by decide +kernel
theorem dX9_list_35 : decode cX9_list 35 = .ok (.bipush 20, 2) := by decide +kernel
theorem dX9_list_37 : decode cX9_list 37 = .ok (.if_icmp .ge 21, 3) := by decide +kernel
theorem dX9_list_40 : decode cX9_list 40 = .ok (.aload_n 0, 1) := by decide +kernel
theorem dX9_list_41 : decode cX9_list 41 = .ok (.getfield 94, 3) := by decide +kernel
theorem dX9_list_44 : decode cX9_list 44 = .ok (.bipush 20, 2) := by decide +kernel
theorem dX9_list_46 : decode cX9_list 46 = .ok (.iload_n 1, 1) := by decide +kernel
theorem dX9_list_47 : decode cX9_list 47 = .ok (.imul, 1) := by decide +kernel
theorem dX9_list_48 : decode cX9_list 48 = .ok (.iload_n 3, 1) := by decide +kernel
theorem dX9_list_49 : decode cX9_list 49 = .ok (.iadd, 1) := by decide +kernel
theorem dX9_list_50 : decode cX9_list 50 = .ok (.lconst 0, 1) := by decide +kernel
theorem dX9_list_51 : decode cX9_list 51 = .ok (.lastore, 1) := by decide +kernel
theorem dX9_list_52 : decode cX9_list 52 = .ok (.iinc 3 1, 3) := by decide +kernel
theorem dX9_list_55 : decode cX9_list 55 = .ok (.goto (-21), 3) := by decide +kernel
theorem dX9_list_58 : decode cX9_list 58 = .ok (.iconst 1, 1) := by decide +kernel
theorem dX9_list_59 : decode cX9_list 59 = .ok (.ireturn, 1) := by decide +kernel
theorem dX9_isPlace_0 : decode cX9_isPlace 0 = .ok (.lload_n 2, 1) := by decide +kernel
theorem dX9_isPlace_1 : decode cX9_isPlace 1 = .ok (.lconst 0, 1) := by decide +kernel
theorem dX9_isPlace_2 : decode cX9_isPlace 2 = .ok (.aload_n 0, 1) := by decide +kernel
theorem dX9_isPlace_3 : decode cX9_isPlace 3 = .ok (.getfield 91, 3) := by decide +kernel
theorem dX9_isPlace_6 : decode cX9_isPlace 6 = .ok (.iload_n 1, 1) := by decide +kernel
theorem dX9_isPlace_7 : decode cX9_isPlace 7 = .ok (.iaload, 1) := by decide +kernel
theorem dX9_isPlace_8 : decode cX9_isPlace 8 = .ok (.iconst 1, 1) := by decide +kernel
theorem dX9_isPlace_9 : decode cX9_isPlace 9 = .ok (.isub, 1) := by decide +kernel
theorem dX9_isPlace_10 : decode cX9_isPlace 10 = .ok (.i2l, 1) := by decide +kernel
theorem dX9_isPlace_11 : decode cX9_isPlace 11 = .ok (.invokestatic 105, 3) := by decide +kernel
theorem dX9_isPlace_14 : decode cX9_isPlace 14 = .ok (.ireturn, 1) := by decide +kernel
theorem dX9_set_0 : decode cX9_set 0 = .ok (.iload_n 1, 1) := by decide +kernel
theorem dX9_set_1 : decode cX9_set 1 = .ok (.invokestatic 257, 3) := by decide +kernel
theorem dX9_set_4 : decode cX9_set 4 = .ok (.ifCond .ne 5, 3) := by decide +kernel
theorem dX9_set_7 : decode cX9_set 7 = .ok (.iconst (-1), 1) := by decide +kernel
theorem dX9_set_8 : decode cX9_set 8 = .ok (.ireturn, 1) := by decide +kernel
theorem dX9_set_9 : decode cX9_set 9 = .ok (.aload_n 0, 1) := by decide +kernel
theorem dX9_set_10 : decode cX9_set 10 = .ok (.getfield 91, 3) := by decide +kernel
theorem dX9_set_13 : decode cX9_set 13 = .ok (.iload_n 1, 1) := by decide +kernel
theorem dX9_set_14 : decode cX9_set 14 = .ok (.iaload, 1) := by decide +kernel
theorem dX9_set_15 : decode cX9_set 15 = .ok (.ifCond .ge 6, 3) := by decide +kernel
theorem dX9_set_18 : decode cX9_set 18 = .ok (.bipush (-11), 2) := by decide +kernel
theorem dX9_set_20 : decode cX9_set 20 = .ok (.ireturn, 1) := by decide +kernel
theorem dX9_set_21 : decode cX9_set 21 = .ok (.aload_n 0, 1) := by decide +kernel
theorem dX9_set_22 : decode cX9_set 22 = .ok (.iload_n 1, 1) := by decide +kernel
theorem dX9_set_23 : decode cX9_set 23 = .ok (.iload_n 2, 1) := by decide +kernel
theorem dX9_set_24 : decode cX9_set 24 = .ok (.i2l, 1) := by decide +kernel
theorem dX9_set_25 : decode cX9_set 25 = .ok (.invokevirtual 260, 3) := by decide +kernel
theorem dX9_set_28 : decode cX9_set 28 = .ok (.ifCond .ne 6, 3) := by decide +kernel
theorem dX9_set_31 : decode cX9_set 31 = .ok (.bipush (-13), 2) := by decide +kernel
theorem dX9_set_33 : decode cX9_set 33 = .ok (.ireturn, 1) := by decide +kernel
theorem dX9_set_34 : decode cX9_set 34 = .ok (.aload_n 0, 1) := by decide +kernel
theorem dX9_set_35 : decode cX9_set 35 = .ok (.getfield 94, 3) := by decide +kernel
theorem dX9_set_38 : decode cX9_set 38 = .ok (.bipush 20, 2) := by decide +kernel
theorem dX9_set_40 : decode cX9_set 40 = .ok (.iload_n 1, 1) := by decide +kernel
theorem dX9_set_41 : decode cX9_set 41 = .ok (.imul, 1) := by decide +kernel
theorem dX9_set_42 : decode cX9_set 42 = .ok (.iload_n 2, 1) := by decide +kernel
theorem dX9_set_43 : decode cX9_set 43 = .ok (.iadd, 1) := by decide +kernel
theorem dX9_set_44 : decode cX9_set 44 = .ok (.lload_n 3, 1) := by decide +kernel
theorem dX9_set_45 : decode cX9_set 45 = .ok (.lastore, 1) := by decide +kernel
theorem dX9_set_46 : decode cX9_set 46 = .ok (.iconst 1, 1) := by decide +kernel
theorem dX9_set_47 : decode cX9_set 47 = .ok (.ireturn, 1) := by decide +kernel
theorem dX9_get_0 : decode cX9_get 0 = .ok (.iload_n 1, 1) := by decide +kernel
theorem dX9_get_1 : decode cX9_get 1 = .ok (.invokestatic 257, 3) := by decide +kernel
theorem dX9_get_4 : decode cX9_get 4 = .ok (.ifCond .eq 27, 3) := by decide +kernel
theorem dX9_get_7 : decode cX9_get 7 = .ok (.aload_n 0, 1) := by decide +kernel
theorem dX9_get_8 : decode cX9_get 8 = .ok (.iload_n 1, 1) := by decide +kernel
theorem dX9_get_9 : decode cX9_get 9 = .ok (.iload_n 2, 1) := by decide +kernel
theorem dX9_get_10 : decode cX9_get 10 = .ok (.i2l, 1) := by decide +kernel
theorem dX9_get_11 : decode cX9_get 11 = .ok (.invokevirtual 260, 3) := by decide +kernel
theorem dX9_get_14 : decode cX9_get 14 = .ok (.ifCond .eq 17, 3) := by decide +kernel
theorem dX9_get_17 : decode cX9_get 17 = .ok (.aload_n 0, 1) := by decide +kernel
theorem dX9_get_18 : decode cX9_get 18 = .ok (.getfield 94, 3) := by decide +kernel
theorem dX9_get_21 : decode cX9_get 21 = .ok (.bipush 20, 2) := by decide +kernel
theorem dX9_get_23 : decode cX9_get 23 = .ok (.iload_n 1, 1) := by decide +kernel
theorem dX9_get_24 : decode cX9_get 24 = .ok (.imul, 1) := by decide +kernel
theorem dX9_get_25 : decode cX9_get 25 = .ok (.iload_n 2, 1) := by decide +kernel
theorem dX9_get_26 : decode cX9_get 26 = .ok (.iadd, 1) := by decide +kernel
theorem dX9_get_27 : decode cX9_get 27 = .ok (.laload, 1) := by decide +kernel
theorem dX9_get_28 : decode cX9_get 28 = .ok (.goto 6, 3) := by decide +kernel
theorem dX9_get_31 : decode cX9_get 31 = .ok (.ldc2_w 264, 3) := by decide +kernel
theorem dX9_get_34 : decode cX9_get 34 = .ok (.lreturn, 1) := by decide +kernel
theorem dX9_lay_0 : decode cX9_lay 0 = .ok (.iload_n 1, 1) := by decide +kernel
theorem dX9_lay_1 : decode cX9_lay 1 = .ok (.invokestatic 257, 3) := by decide +kernel
theorem dX9_lay_4 : decode cX9_lay 4 = .ok (.ifCond .ne 5, 3) := by decide +kernel
theorem dX9_lay_7 : decode cX9_lay 7 = .ok (.iconst (-1), 1) := by decide +kernel
theorem dX9_lay_8 : decode cX9_lay 8 = .ok (.ireturn, 1) := by decide +kernel
theorem dX9_lay_9 : decode cX9_lay 9 = .ok (.aload_n 0, 1) := by decide +kernel
theorem dX9_lay_10 : decode cX9_lay 10 = .ok (.getfield 91, 3) := by decide +kernel
theorem dX9_lay_13 : decode cX9_lay 13 = .ok (.iload_n 1, 1) := by decide +kernel
theorem dX9_lay_14 : decode cX9_lay 14 = .ok (.iaload, 1) := by decide +kernel
theorem dX9_lay_15 : decode cX9_lay 15 = .ok (.ifCond .ge 6, 3) := by decide +kernel
theorem dX9_lay_18 : decode cX9_lay 18 = .ok (.bipush (-11), 2) := by decide +kernel
theorem dX9_lay_20 : decode cX9_lay 20 = .ok (.ireturn, 1) := by decide +kernel
theorem dX9_lay_21 : decode cX9_lay 21 = .ok (.iload_n 2, 1) := by decide +kernel
theorem dX9_lay_22 : decode cX9_lay 22 = .ok (.ifCond .ge 6, 3) := by decide +kernel
theorem dX9_lay_25 : decode cX9_lay 25 = .ok (.bipush (-13), 2) := by decide +kernel
theorem dX9_lay_27 : decode cX9_lay 27 = .ok (.ireturn, 1) := by decide +kernel
theorem dX9_lay_28 : decode cX9_lay 28 = .ok (.iconst 0, 1) := by decide +kernel
theorem dX9_lay_29 : decode cX9_lay 29 = .ok (.istore_n 3, 1) := by decide +kernel
theorem dX9_lay_30 : decode cX9_lay 30 = .ok (.iload_n 3, 1) := by decide +kernel
theorem dX9_lay_31 : decode cX9_lay 31 = .ok (.aload_n 0, 1) := by decide +kernel
theorem dX9_lay_32 : decode cX9_lay 32 = .ok (.getfield 15, 3) := by decide +kernel
theorem dX9_lay_35 : decode cX9_lay 35 = .ok (.if_icmp .ge 45, 3) := by decide +kernel
theorem dX9_lay_38 : decode cX9_lay 38 = .ok (.aload_n 0, 1) := by decide +kernel
theorem dX9_lay_39 : decode cX9_lay 39 = .ok (.iload_n 1, 1) := by decide +kernel
theorem dX9_lay_40 : decode cX9_lay 40 = .ok (.iload_n 2, 1) := by decide +kernel
theorem dX9_lay_41 : decode cX9_lay 41 = .ok (.i2l, 1) := by decide +kernel
theorem dX9_lay_42 : decode cX9_lay 42 = .ok (.iload_n 3, 1) := by decide +kernel
theorem dX9_lay_43 : decode cX9_lay 43 = .ok (.i2l, 1) := by decide +kernel
theorem dX9_lay_44 : decode cX9_lay 44 = .ok (.ladd, 1) := by decide +kernel
theorem dX9_lay_45 : decode cX9_lay 45 = .ok (.invokevirtual 260, 3) := by decide +kernel
theorem dX9_lay_48 : decode cX9_lay 48 = .ok (.ifCond .ne 6, 3) := by decide +kernel
theorem dX9_lay_51 : decode cX9_lay 51 = .ok (.bipush (-13), 2) := by decide +kernel
theorem dX9_lay_53 : decode cX9_lay 53 = .ok (.ireturn, 1) := by decide +kernel
theorem dX9_lay_54 : decode cX9_lay 54 = .ok (.aload_n 0, 1) := by decide +kernel
theorem dX9_lay_55 : decode cX9_lay 55 = .ok (.getfield 94, 3) := by decide +kernel
theorem dX9_lay_58 : decode cX9_lay 58 = .ok (.bipush 20, 2) := by decide +kernel
theorem dX9_lay_60 : decode cX9_lay 60 = .ok (.iload_n 1, 1) := by decide +kernel
theorem dX9_lay_61 : decode cX9_lay 61 = .ok (.imul, 1) := by decide +kernel
theorem dX9_lay_62 : decode cX9_lay 62 = .ok (.iload_n 2, 1) := by decide +kernel
theorem dX9_lay_63 : decode cX9_lay 63 = .ok (.iadd, 1) := by decide +kernel
theorem dX9_lay_64 : decode cX9_lay 64 = .ok (.iload_n 3, 1) := by decide +kernel
theorem dX9_lay_65 : decode cX9_lay 65 = .ok (.iadd, 1) := by decide +kernel
theorem dX9_lay_66 : decode cX9_lay 66 = .ok (.aload_n 0, 1) := by decide +kernel
theorem dX9_lay_67 : decode cX9_lay 67 = .ok (.getfield 18, 3) := by decide +kernel
theorem dX9_lay_70 : decode cX9_lay 70 = .ok (.iload_n 3, 1) := by decide +kernel
theorem dX9_lay_71 : decode cX9_lay 71 = .ok (.iaload, 1) := by decide +kernel
theorem dX9_lay_72 : decode cX9_lay 72 = .ok (.i2l, 1) := by decide +kernel
theorem dX9_lay_73 : decode cX9_lay 73 = .ok (.lastore, 1) := by decide +kernel
theorem dX9_lay_74 : decode cX9_lay 74 = .ok (.iinc 3 1, 3) := by decide +kernel
theorem dX9_lay_77 : decode cX9_lay 77 = .ok (.goto (-47), 3) := by decide +kernel
theorem dX9_lay_80 : decode cX9_lay 80 = .ok (.aload_n 0, 1) := by decide +kernel
theorem dX9_lay_81 : decode cX9_lay 81 = .ok (.getfield 15, 3) := by decide +kernel
theorem dX9_lay_84 : decode cX9_lay 84 = .ok (.ireturn, 1) := by decide +kernel
theorem dX9_load_0 : decode cX9_load 0 = .ok (.iload_n 1, 1) := by decide +kernel
theorem dX9_load_1 : decode cX9_load 1 = .ok (.invokestatic 257, 3) := by decide +kernel
theorem dX9_load_4 : decode cX9_load 4 = .ok (.ifCond .ne 5, 3) := by decide +kernel
theorem dX9_load_7 : decode cX9_load 7 = .ok (.iconst (-1), 1) := by decide +kernel
theorem dX9_load_8 : decode cX9_load 8 = .ok (.ireturn, 1) := by decide +kernel
theorem dX9_load_9 : decode cX9_load 9 = .ok (.aload_n 0, 1) := by decide +kernel
theorem dX9_load_10 : decode cX9_load 10 = .ok (.getfield 91, 3) := by decide +kernel
theorem dX9_load_13 : decode cX9_load 13 = .ok (.iload_n 1, 1) := by decide +kernel
theorem dX9_load_14 : decode cX9_load 14 = .ok (.iaload, 1) := by decide +kernel
theorem dX9_load_15 : decode cX9_load 15 = .ok (.ifCond .ge 6, 3) := by decide +kernel
theorem dX9_load_18 : decode cX9_load 18 = .ok (.bipush (-11), 2) := by decide +kernel
theorem dX9_load_20 : decode cX9_load 20 = .ok (.ireturn, 1) := by decide +kernel
theorem dX9_load_21 : decode cX9_load 21 = .ok (.iload_n 2, 1) := by decide +kernel
theorem dX9_load_22 : decode cX9_load 22 = .ok (.ifCond .lt 22, 3) := by decide +kernel
theorem dX9_load_25 : decode cX9_load 25 = .ok (.iload_n 2, 1) := by decide +kernel
theorem dX9_load_26 : decode cX9_load 26 = .ok (.i2l, 1) := by decide +kernel
theorem dX9_load_27 : decode cX9_load 27 = .ok (.aload_n 0, 1) := by decide +kernel
theorem dX9_load_28 : decode cX9_load 28 = .ok (.getfield 15, 3) := by decide +kernel
theorem dX9_load_31 : decode cX9_load 31 = .ok (.i2l, 1) := by decide +kernel
theorem dX9_load_32 : decode cX9_load 32 = .ok (.ladd, 1) := by decide +kernel
theorem dX9_load_33 : decode cX9_load 33 = .ok (.aload_n 0, 1) := by decide +kernel
theorem dX9_load_34 : decode cX9_load 34 = .ok (.getfield 91, 3) := by decide +kernel
theorem dX9_load_37 : decode cX9_load 37 = .ok (.iload_n 1, 1) := by decide +kernel
theorem dX9_load_38 : decode cX9_load 38 = .ok (.iaload, 1) := by decide +kernel
theorem dX9_load_39 : decode cX9_load 39 = .ok (.i2l, 1) := by decide +kernel
theorem dX9_load_40 : decode cX9_load 40 = .ok (.lcmp, 1) := by decide +kernel
theorem dX9_load_41 : decode cX9_load 41 = .ok (.ifCond .le 6, 3) := by decide +kernel
theorem dX9_load_44 : decode cX9_load 44 = .ok (.bipush (-13), 2) := by decide +kernel
theorem dX9_load_46 : decode cX9_load 46 = .ok (.ireturn, 1) := by decide +kernel
theorem dX9_load_47 : decode cX9_load 47 = .ok (.iconst 0, 1) := by decide +kernel
theorem dX9_load_48 : decode cX9_load 48 = .ok (.istore_n 3, 1) := by decide +kernel
theorem dX9_load_49 : decode cX9_load 49 = .ok (.iload_n 3, 1) := by decide +kernel
theorem dX9_load_50 : decode cX9_load 50 = .ok (.aload_n 0, 1) := by decide +kernel
theorem dX9_load_51 : decode cX9_load 51 = .ok (.getfield 15, 3) := by decide +kernel
theorem dX9_load_54 : decode cX9_load 54 = .ok (.if_icmp .ge 38, 3) := by decide +kernel
theorem dX9_load_57 : decode cX9_load 57 = .ok (.aload_n 0, 1) := by decide +kernel
theorem dX9_load_58 : decode cX9_load 58 = .ok (.getfield 18, 3) := by decide +kernel
theorem dX9_load_61 : decode cX9_load 61 = .ok (.iload_n 3, 1) := by decide +kernel
theorem dX9_load_62 : decode cX9_load 62 = .ok (.aload_n 0, 1) := by decide +kernel
theorem dX9_load_63 : decode cX9_load 63 = .ok (.getfield 94, 3) := by decide +kernel
theorem dX9_load_66 : decode cX9_load 66 = .ok (.bipush 20, 2) := by decide +kernel
theorem dX9_load_68 : decode cX9_load 68 = .ok (.iload_n 1, 1) := by decide +kernel
theorem dX9_load_69 : decode cX9_load 69 = .ok (.imul, 1) := by decide +kernel
theorem dX9_load_70 : decode cX9_load 70 = .ok (.iload_n 2, 1) := by decide +kernel
theorem dX9_load_71 : decode cX9_load 71 = .ok (.iadd, 1) := by decide +kernel
theorem dX9_load_72 : decode cX9_load 72 = .ok (.iload_n 3, 1) := by decide +kernel
theorem dX9_load_73 : decode cX9_load 73 = .ok (.iadd, 1) := by decide +kernel
theorem dX9_load_74 : decode cX9_load 74 = .ok (.laload, 1) := by decide +kernel
theorem dX9_load_75 : decode cX9_load 75 = .ok (.lconst 1, 1) := by decide +kernel
theorem dX9_load_76 : decode cX9_load 76 = .ok (.aload_n 0, 1) := by decide +kernel
theorem dX9_load_77 : decode cX9_load 77 = .ok (.getfield 9, 3) := by decide +kernel
theorem dX9_load_80 : decode cX9_load 80 = .ok (.lshl, 1) := by decide +kernel
theorem dX9_load_81 : decode cX9_load 81 = .ok (.lconst 1, 1) := by decide +kernel
theorem dX9_load_82 : decode cX9_load 82 = .ok (.lsub, 1) := by decide +kernel
theorem dX9_load_83 : decode cX9_load 83 = .ok (.land, 1) := by decide +kernel
theorem dX9_load_84 : decode cX9_load 84 = .ok (.l2i, 1) := by decide +kernel
theorem dX9_load_85 : decode cX9_load 85 = .ok (.iastore, 1) := by decide +kernel
theorem dX9_load_86 : decode cX9_load 86 = .ok (.iinc 3 1, 3) := by decide +kernel
theorem dX9_load_89 : decode cX9_load 89 = .ok (.goto (-40), 3) := by decide +kernel
theorem dX9_load_92 : decode cX9_load 92 = .ok (.aload_n 0, 1) := by decide +kernel
theorem dX9_load_93 : decode cX9_load 93 = .ok (.iconst 0, 1) := by decide +kernel
theorem dX9_load_94 : decode cX9_load 94 = .ok (.putfield 156, 3) := by decide +kernel
theorem dX9_load_97 : decode cX9_load 97 = .ok (.aload_n 0, 1) := by decide +kernel
theorem dX9_load_98 : decode cX9_load 98 = .ok (.aload_n 0, 1) := by decide +kernel
theorem dX9_load_99 : decode cX9_load 99 = .ok (.getfield 18, 3) := by decide +kernel
theorem dX9_load_102 : decode cX9_load 102 = .ok (.invokevirtual 163, 3) := by decide +kernel
theorem dX9_load_105 : decode cX9_load 105 = .ok (.ireturn, 1) := by decide +kernel
theorem dX9_judge_0 : decode cX9_judge 0 = .ok (.iload_n 1, 1) := by decide +kernel
theorem dX9_judge_1 : decode cX9_judge 1 = .ok (.invokestatic 257, 3) := by decide +kernel
theorem dX9_judge_4 : decode cX9_judge 4 = .ok (.ifCond .ne 5, 3) := by decide +kernel
theorem dX9_judge_7 : decode cX9_judge 7 = .ok (.iconst (-1), 1) := by decide +kernel
theorem dX9_judge_8 : decode cX9_judge 8 = .ok (.ireturn, 1) := by decide +kernel
theorem dX9_judge_9 : decode cX9_judge 9 = .ok (.iconst 0, 1) := by decide +kernel
theorem dX9_judge_10 : decode cX9_judge 10 = .ok (.istore_n 3, 1) := by decide +kernel
theorem dX9_judge_11 : decode cX9_judge 11 = .ok (.iload_n 3, 1) := by decide +kernel
theorem dX9_judge_12 : decode cX9_judge 12 = .ok (.aload_n 0, 1) := by decide +kernel
theorem dX9_judge_13 : decode cX9_judge 13 = .ok (.getfield 15, 3) := by decide +kernel
theorem dX9_judge_16 : decode cX9_judge 16 = .ok (.if_icmp .ge 57, 3) := by decide +kernel
theorem dX9_judge_19 : decode cX9_judge 19 = .ok (.iload_n 2, 1) := by decide +kernel
theorem dX9_judge_20 : decode cX9_judge 20 = .ok (.ifCond .lt 16, 3) := by decide +kernel
theorem dX9_judge_23 : decode cX9_judge 23 = .ok (.aload_n 0, 1) := by decide +kernel
theorem dX9_judge_24 : decode cX9_judge 24 = .ok (.iload_n 1, 1) := by decide +kernel
theorem dX9_judge_25 : decode cX9_judge 25 = .ok (.iload_n 2, 1) := by decide +kernel
theorem dX9_judge_26 : decode cX9_judge 26 = .ok (.i2l, 1) := by decide +kernel
theorem dX9_judge_27 : decode cX9_judge 27 = .ok (.iload_n 3, 1) := by decide +kernel
theorem dX9_judge_28 : decode cX9_judge 28 = .ok (.i2l, 1) := by decide +kernel
theorem dX9_judge_29 : decode cX9_judge 29 = .ok (.ladd, 1) := by decide +kernel
theorem dX9_judge_30 : decode cX9_judge 30 = .ok (.invokevirtual 260, 3) := by decide +kernel
theorem dX9_judge_33 : decode cX9_judge 33 = .ok (.ifCond .ne 8, 3) := by decide +kernel
theorem dX9_judge_36 : decode cX9_judge 36 = .ok (.bipush 100, 2) := by decide +kernel
theorem dX9_judge_38 : decode cX9_judge 38 = .ok (.iload_n 3, 1) := by decide +kernel
theorem dX9_judge_39 : decode cX9_judge 39 = .ok (.iadd, 1) := by decide +kernel
theorem dX9_judge_40 : decode cX9_judge 40 = .ok (.ireturn, 1) := by decide +kernel
theorem dX9_judge_41 : decode cX9_judge 41 = .ok (.aload_n 0, 1) := by decide +kernel
theorem dX9_judge_42 : decode cX9_judge 42 = .ok (.getfield 94, 3) := by decide +kernel
theorem dX9_judge_45 : decode cX9_judge 45 = .ok (.bipush 20, 2) := by decide +kernel
theorem dX9_judge_47 : decode cX9_judge 47 = .ok (.iload_n 1, 1) := by decide +kernel
theorem dX9_judge_48 : decode cX9_judge 48 = .ok (.imul, 1) := by decide +kernel
theorem dX9_judge_49 : decode cX9_judge 49 = .ok (.iload_n 2, 1) := by decide +kernel
theorem dX9_judge_50 : decode cX9_judge 50 = .ok (.iadd, 1) := by decide +kernel
theorem dX9_judge_51 : decode cX9_judge 51 = .ok (.iload_n 3, 1) := by decide +kernel
theorem dX9_judge_52 : decode cX9_judge 52 = .ok (.iadd, 1) := by decide +kernel
theorem dX9_judge_53 : decode cX9_judge 53 = .ok (.laload, 1) := by decide +kernel
theorem dX9_judge_54 : decode cX9_judge 54 = .ok (.aload_n 0, 1) := by decide +kernel
theorem dX9_judge_55 : decode cX9_judge 55 = .ok (.getfield 18, 3) := by decide +kernel
theorem dX9_judge_58 : decode cX9_judge 58 = .ok (.iload_n 3, 1) := by decide +kernel
theorem dX9_judge_59 : decode cX9_judge 59 = .ok (.iaload, 1) := by decide +kernel
theorem dX9_judge_60 : decode cX9_judge 60 = .ok (.i2l, 1) := by decide +kernel
theorem dX9_judge_61 : decode cX9_judge 61 = .ok (.lcmp, 1) := by decide +kernel
theorem dX9_judge_62 : decode cX9_judge 62 = .ok (.ifCond .eq 5, 3) := by decide +kernel
theorem dX9_judge_65 : decode cX9_judge 65 = .ok (.iload_n 3, 1) := by decide +kernel
theorem dX9_judge_66 : decode cX9_judge 66 = .ok (.ireturn, 1) := by decide +kernel
theorem dX9_judge_67 : decode cX9_judge 67 = .ok (.iinc 3 1, 3) := by decide +kernel
theorem dX9_judge_70 : decode cX9_judge 70 = .ok (.goto (-59), 3) := by decide +kernel
theorem dX9_judge_73 : decode cX9_judge 73 = .ok (.bipush (-5), 2) := by decide +kernel
theorem dX9_judge_75 : decode cX9_judge 75 = .ok (.ireturn, 1) := by decide +kernel
theorem dX9_isTold_0 : decode cX9_isTold 0 = .ok (.iload_n 0, 1) := by decide +kernel
theorem dX9_isTold_1 : decode cX9_isTold 1 = .ok (.ifCond .lt 25, 3) := by decide +kernel
theorem dX9_isTold_4 : decode cX9_isTold 4 = .ok (.iload_n 0, 1) := by decide +kernel
theorem dX9_isTold_5 : decode cX9_isTold 5 = .ok (.bipush 100, 2) := by decide +kernel
theorem dX9_isTold_7 : decode cX9_isTold 7 = .ok (.idiv, 1) := by decide +kernel
theorem dX9_isTold_8 : decode cX9_isTold 8 = .ok (.bipush 16, 2) := by decide +kernel
theorem dX9_isTold_10 : decode cX9_isTold 10 = .ok (.if_icmp .ge 16, 3) := by decide +kernel
theorem dX9_isTold_13 : decode cX9_isTold 13 = .ok (.iload_n 0, 1) := by decide +kernel
theorem dX9_isTold_14 : decode cX9_isTold 14 = .ok (.bipush 100, 2) := by decide +kernel
theorem dX9_isTold_16 : decode cX9_isTold 16 = .ok (.irem, 1) := by decide +kernel
theorem dX9_isTold_17 : decode cX9_isTold 17 = .ok (.bipush 16, 2) := by decide +kernel
theorem dX9_isTold_19 : decode cX9_isTold 19 = .ok (.if_icmp .ge 7, 3) := by decide +kernel
theorem dX9_isTold_22 : decode cX9_isTold 22 = .ok (.iconst 1, 1) := by decide +kernel
theorem dX9_isTold_23 : decode cX9_isTold 23 = .ok (.goto 4, 3) := by decide +kernel
theorem dX9_isTold_26 : decode cX9_isTold 26 = .ok (.iconst 0, 1) := by decide +kernel
theorem dX9_isTold_27 : decode cX9_isTold 27 = .ok (.ireturn, 1) := by decide +kernel
theorem dX9_see_0 : decode cX9_see 0 = .ok (.iload_n 3, 1) := by decide +kernel
theorem dX9_see_1 : decode cX9_see 1 = .ok (.iconst (-1), 1) := by decide +kernel
theorem dX9_see_2 : decode cX9_see 2 = .ok (.if_icmp .ne 10, 3) := by decide +kernel
theorem dX9_see_5 : decode cX9_see 5 = .ok (.aload_n 0, 1) := by decide +kernel
theorem dX9_see_6 : decode cX9_see 6 = .ok (.iconst 0, 1) := by decide +kernel
theorem dX9_see_7 : decode cX9_see 7 = .ok (.putfield 266, 3) := by decide +kernel
theorem dX9_see_10 : decode cX9_see 10 = .ok (.iconst 0, 1) := by decide +kernel
theorem dX9_see_11 : decode cX9_see 11 = .ok (.ireturn, 1) := by decide +kernel
theorem dX9_see_12 : decode cX9_see 12 = .ok (.iload_n 1, 1) := by decide +kernel
theorem dX9_see_13 : decode cX9_see 13 = .ok (.i2l, 1) := by decide +kernel
theorem dX9_see_14 : decode cX9_see 14 = .ok (.ldc2_w 269, 3) := by decide +kernel
theorem dX9_see_17 : decode cX9_see 17 = .ok (.ldc2_w 271, 3) := by decide +kernel
theorem dX9_see_20 : decode cX9_see 20 = .ok (.invokestatic 105, 3) := by decide +kernel
theorem dX9_see_23 : decode cX9_see 23 = .ok (.ifCond .eq 20, 3) := by decide +kernel
theorem dX9_see_26 : decode cX9_see 26 = .ok (.iload_n 2, 1) := by decide +kernel
theorem dX9_see_27 : decode cX9_see 27 = .ok (.invokestatic 273, 3) := by decide +kernel
theorem dX9_see_30 : decode cX9_see 30 = .ok (.ifCond .eq 13, 3) := by decide +kernel
theorem dX9_see_33 : decode cX9_see 33 = .ok (.iload_n 3, 1) := by decide +kernel
theorem dX9_see_34 : decode cX9_see 34 = .ok (.i2l, 1) := by decide +kernel
theorem dX9_see_35 : decode cX9_see 35 = .ok (.lconst 0, 1) := by decide +kernel
theorem dX9_see_36 : decode cX9_see 36 = .ok (.lconst 1, 1) := by decide +kernel
theorem dX9_see_37 : decode cX9_see 37 = .ok (.invokestatic 105, 3) := by decide +kernel
theorem dX9_see_40 : decode cX9_see 40 = .ok (.ifCond .ne 6, 3) := by decide +kernel
theorem dX9_see_43 : decode cX9_see 43 = .ok (.bipush (-2), 2) := by decide +kernel
theorem dX9_see_45 : decode cX9_see 45 = .ok (.ireturn, 1) := by decide +kernel
theorem dX9_see_46 : decode cX9_see 46 = .ok (.aload_n 0, 1) := by decide +kernel
theorem dX9_see_47 : decode cX9_see 47 = .ok (.getfield 266, 3) := by decide +kernel
theorem dX9_see_50 : decode cX9_see 50 = .ok (.iconst 5, 1) := by decide +kernel
theorem dX9_see_51 : decode cX9_see 51 = .ok (.if_icmp .ne 6, 3) := by decide +kernel
theorem dX9_see_54 : decode cX9_see 54 = .ok (.bipush (-4), 2) := by decide +kernel
theorem dX9_see_56 : decode cX9_see 56 = .ok (.ireturn, 1) := by decide +kernel
theorem dX9_see_57 : decode cX9_see 57 = .ok (.aload_n 0, 1) := by decide +kernel
theorem dX9_see_58 : decode cX9_see 58 = .ok (.getfield 28, 3) := by decide +kernel
theorem dX9_see_61 : decode cX9_see 61 = .ok (.aload_n 0, 1) := by decide +kernel
theorem dX9_see_62 : decode cX9_see 62 = .ok (.getfield 266, 3) := by decide +kernel
theorem dX9_see_65 : decode cX9_see 65 = .ok (.iload_n 1, 1) := by decide +kernel
theorem dX9_see_66 : decode cX9_see 66 = .ok (.iastore, 1) := by decide +kernel
theorem dX9_see_67 : decode cX9_see 67 = .ok (.aload_n 0, 1) := by decide +kernel
theorem dX9_see_68 : decode cX9_see 68 = .ok (.getfield 31, 3) := by decide +kernel
theorem dX9_see_71 : decode cX9_see 71 = .ok (.aload_n 0, 1) := by decide +kernel
theorem dX9_see_72 : decode cX9_see 72 = .ok (.getfield 266, 3) := by decide +kernel
theorem dX9_see_75 : decode cX9_see 75 = .ok (.iload_n 2, 1) := by decide +kernel
theorem dX9_see_76 : decode cX9_see 76 = .ok (.iastore, 1) := by decide +kernel
theorem dX9_see_77 : decode cX9_see 77 = .ok (.aload_n 0, 1) := by decide +kernel
theorem dX9_see_78 : decode cX9_see 78 = .ok (.getfield 34, 3) := by decide +kernel
theorem dX9_see_81 : decode cX9_see 81 = .ok (.aload_n 0, 1) := by decide +kernel
theorem dX9_see_82 : decode cX9_see 82 = .ok (.getfield 266, 3) := by decide +kernel
theorem dX9_see_85 : decode cX9_see 85 = .ok (.iload_n 3, 1) := by decide +kernel
theorem dX9_see_86 : decode cX9_see 86 = .ok (.iastore, 1) := by decide +kernel
theorem dX9_see_87 : decode cX9_see 87 = .ok (.aload_n 0, 1) := by decide +kernel
theorem dX9_see_88 : decode cX9_see 88 = .ok (.dup, 1) := by decide +kernel
theorem dX9_see_89 : decode cX9_see 89 = .ok (.getfield 266, 3) := by decide +kernel
theorem dX9_see_92 : decode cX9_see 92 = .ok (.iconst 1, 1) := by decide +kernel
theorem dX9_see_93 : decode cX9_see 93 = .ok (.iadd, 1) := by decide +kernel
theorem dX9_see_94 : decode cX9_see 94 = .ok (.putfield 266, 3) := by decide +kernel
theorem dX9_see_97 : decode cX9_see 97 = .ok (.aload_n 0, 1) := by decide +kernel
theorem dX9_see_98 : decode cX9_see 98 = .ok (.getfield 266, 3) := by decide +kernel
theorem dX9_see_101 : decode cX9_see 101 = .ok (.ireturn, 1) := by decide +kernel
theorem dX9_isSo_0 : decode cX9_isSo 0 = .ok (.aload_n 0, 1) := by decide +kernel
theorem dX9_isSo_1 : decode cX9_isSo 1 = .ok (.getfield 31, 3) := by decide +kernel
theorem dX9_isSo_4 : decode cX9_isSo 4 = .ok (.iload_n 1, 1) := by decide +kernel
theorem dX9_isSo_5 : decode cX9_isSo 5 = .ok (.iaload, 1) := by decide +kernel
theorem dX9_isSo_6 : decode cX9_isSo 6 = .ok (.bipush 100, 2) := by decide +kernel
theorem dX9_isSo_8 : decode cX9_isSo 8 = .ok (.idiv, 1) := by decide +kernel
theorem dX9_isSo_9 : decode cX9_isSo 9 = .ok (.istore_n 2, 1) := by decide +kernel
theorem dX9_isSo_10 : decode cX9_isSo 10 = .ok (.aload_n 0, 1) := by decide +kernel
theorem dX9_isSo_11 : decode cX9_isSo 11 = .ok (.getfield 31, 3) := by decide +kernel
theorem dX9_isSo_14 : decode cX9_isSo 14 = .ok (.iload_n 1, 1) := by decide +kernel
theorem dX9_isSo_15 : decode cX9_isSo 15 = .ok (.iaload, 1) := by decide +kernel
theorem dX9_isSo_16 : decode cX9_isSo 16 = .ok (.bipush 100, 2) := by decide +kernel
theorem dX9_isSo_18 : decode cX9_isSo 18 = .ok (.irem, 1) := by decide +kernel
theorem dX9_isSo_19 : decode cX9_isSo 19 = .ok (.istore_n 3, 1) := by decide +kernel
theorem dX9_isSo_20 : decode cX9_isSo 20 = .ok (.aload_n 0, 1) := by decide +kernel
theorem dX9_isSo_21 : decode cX9_isSo 21 = .ok (.iload_n 2, 1) := by decide +kernel
theorem dX9_isSo_22 : decode cX9_isSo 22 = .ok (.iload_n 3, 1) := by decide +kernel
theorem dX9_isSo_23 : decode cX9_isSo 23 = .ok (.invokevirtual 159, 3) := by decide +kernel
theorem dX9_isSo_26 : decode cX9_isSo 26 = .ok (.ifCond .ne 5, 3) := by decide +kernel
theorem dX9_isSo_29 : decode cX9_isSo 29 = .ok (.iconst 0, 1) := by decide +kernel
theorem dX9_isSo_30 : decode cX9_isSo 30 = .ok (.ireturn, 1) := by decide +kernel
theorem dX9_isSo_31 : decode cX9_isSo 31 = .ok (.aload_n 0, 1) := by decide +kernel
theorem dX9_isSo_32 : decode cX9_isSo 32 = .ok (.getfield 18, 3) := by decide +kernel
theorem dX9_isSo_35 : decode cX9_isSo 35 = .ok (.aload_n 0, 1) := by decide +kernel
theorem dX9_isSo_36 : decode cX9_isSo 36 = .ok (.getfield 43, 3) := by decide +kernel
theorem dX9_isSo_39 : decode cX9_isSo 39 = .ok (.invokestatic 139, 3) := by decide +kernel
theorem dX9_isSo_42 : decode cX9_isSo 42 = .ok (.aload_n 0, 1) := by decide +kernel
theorem dX9_isSo_43 : decode cX9_isSo 43 = .ok (.aload_n 0, 1) := by decide +kernel
theorem dX9_isSo_44 : decode cX9_isSo 44 = .ok (.getfield 142, 3) := by decide +kernel
theorem dX9_isSo_47 : decode cX9_isSo 47 = .ok (.putfield 145, 3) := by decide +kernel
theorem dX9_isSo_50 : decode cX9_isSo 50 = .ok (.aload_n 0, 1) := by decide +kernel
theorem dX9_isSo_51 : decode cX9_isSo 51 = .ok (.aload_n 0, 1) := by decide +kernel
theorem dX9_isSo_52 : decode cX9_isSo 52 = .ok (.getfield 28, 3) := by decide +kernel
theorem dX9_isSo_55 : decode cX9_isSo 55 = .ok (.iload_n 1, 1) := by decide +kernel
theorem dX9_isSo_56 : decode cX9_isSo 56 = .ok (.iaload, 1) := by decide +kernel
theorem dX9_isSo_57 : decode cX9_isSo 57 = .ok (.invokevirtual 192, 3) := by decide +kernel
theorem dX9_isSo_60 : decode cX9_isSo 60 = .ok (.aload_n 0, 1) := by decide +kernel
theorem dX9_isSo_61 : decode cX9_isSo 61 = .ok (.getfield 43, 3) := by decide +kernel
theorem dX9_isSo_64 : decode cX9_isSo 64 = .ok (.iload_n 3, 1) := by decide +kernel
theorem dX9_isSo_65 : decode cX9_isSo 65 = .ok (.iaload, 1) := by decide +kernel
theorem dX9_isSo_66 : decode cX9_isSo 66 = .ok (.iload_n 2, 1) := by decide +kernel
theorem dX9_isSo_67 : decode cX9_isSo 67 = .ok (.ishr, 1) := by decide +kernel
theorem dX9_isSo_68 : decode cX9_isSo 68 = .ok (.iconst 1, 1) := by decide +kernel
theorem dX9_isSo_69 : decode cX9_isSo 69 = .ok (.iand, 1) := by decide +kernel
theorem dX9_isSo_70 : decode cX9_isSo 70 = .ok (.aload_n 0, 1) := by decide +kernel
theorem dX9_isSo_71 : decode cX9_isSo 71 = .ok (.getfield 34, 3) := by decide +kernel
theorem dX9_isSo_74 : decode cX9_isSo 74 = .ok (.iload_n 1, 1) := by decide +kernel
theorem dX9_isSo_75 : decode cX9_isSo 75 = .ok (.iaload, 1) := by decide +kernel
theorem dX9_isSo_76 : decode cX9_isSo 76 = .ok (.if_icmp .ne 7, 3) := by decide +kernel
theorem dX9_isSo_79 : decode cX9_isSo 79 = .ok (.iconst 1, 1) := by decide +kernel
theorem dX9_isSo_80 : decode cX9_isSo 80 = .ok (.goto 4, 3) := by decide +kernel
theorem dX9_isSo_83 : decode cX9_isSo 83 = .ok (.iconst 0, 1) := by decide +kernel
theorem dX9_isSo_84 : decode cX9_isSo 84 = .ok (.ireturn, 1) := by decide +kernel
theorem dX9_fits_0 : decode cX9_fits 0 = .ok (.iconst 0, 1) := by decide +kernel
theorem dX9_fits_1 : decode cX9_fits 1 = .ok (.istore_n 1, 1) := by decide +kernel
theorem dX9_fits_2 : decode cX9_fits 2 = .ok (.iconst 0, 1) := by decide +kernel
theorem dX9_fits_3 : decode cX9_fits 3 = .ok (.istore_n 2, 1) := by decide +kernel
theorem dX9_fits_4 : decode cX9_fits 4 = .ok (.iload_n 2, 1) := by decide +kernel
theorem dX9_fits_5 : decode cX9_fits 5 = .ok (.iconst 5, 1) := by decide +kernel
theorem dX9_fits_6 : decode cX9_fits 6 = .ok (.if_icmp .ge 73, 3) := by decide +kernel
theorem dX9_fits_9 : decode cX9_fits 9 = .ok (.iload_n 2, 1) := by decide +kernel
theorem dX9_fits_10 : decode cX9_fits 10 = .ok (.aload_n 0, 1) := by decide +kernel
theorem dX9_fits_11 : decode cX9_fits 11 = .ok (.getfield 46, 3) := by decide +kernel
theorem dX9_fits_14 : decode cX9_fits 14 = .ok (.invokestatic 101, 3) := by decide +kernel
theorem dX9_fits_17 : decode cX9_fits 17 = .ok (.aload_n 0, 1) := by decide +kernel
theorem dX9_fits_18 : decode cX9_fits 18 = .ok (.getfield 46, 3) := by decide +kernel
theorem dX9_fits_21 : decode cX9_fits 21 = .ok (.aload_n 0, 1) := by decide +kernel
theorem dX9_fits_22 : decode cX9_fits 22 = .ok (.getfield 49, 3) := by decide +kernel
theorem dX9_fits_25 : decode cX9_fits 25 = .ok (.invokestatic 123, 3) := by decide +kernel
theorem dX9_fits_28 : decode cX9_fits 28 = .ok (.iconst 1, 1) := by decide +kernel
theorem dX9_fits_29 : decode cX9_fits 29 = .ok (.istore_n 3, 1) := by decide +kernel
theorem dX9_fits_30 : decode cX9_fits 30 = .ok (.iconst 0, 1) := by decide +kernel
theorem dX9_fits_31 : decode cX9_fits 31 = .ok (.istore 4, 2) := by decide +kernel
theorem dX9_fits_33 : decode cX9_fits 33 = .ok (.iload 4, 2) := by decide +kernel
theorem dX9_fits_35 : decode cX9_fits 35 = .ok (.aload_n 0, 1) := by decide +kernel
theorem dX9_fits_36 : decode cX9_fits 36 = .ok (.getfield 266, 3) := by decide +kernel
theorem dX9_fits_39 : decode cX9_fits 39 = .ok (.if_icmp .ge 20, 3) := by decide +kernel
theorem dX9_fits_42 : decode cX9_fits 42 = .ok (.iload_n 3, 1) := by decide +kernel
theorem dX9_fits_43 : decode cX9_fits 43 = .ok (.ifCond .eq 16, 3) := by decide +kernel
theorem dX9_fits_46 : decode cX9_fits 46 = .ok (.aload_n 0, 1) := by decide +kernel
theorem dX9_fits_47 : decode cX9_fits 47 = .ok (.iload 4, 2) := by decide +kernel
theorem dX9_fits_49 : decode cX9_fits 49 = .ok (.invokevirtual 276, 3) := by decide +kernel
theorem dX9_fits_52 : decode cX9_fits 52 = .ok (.istore_n 3, 1) := by decide +kernel
theorem dX9_fits_53 : decode cX9_fits 53 = .ok (.iinc 4 1, 3) := by decide +kernel
theorem dX9_fits_56 : decode cX9_fits 56 = .ok (.goto (-23), 3) := by decide +kernel
theorem dX9_fits_59 : decode cX9_fits 59 = .ok (.iload_n 1, 1) := by decide +kernel
theorem dX9_fits_60 : decode cX9_fits 60 = .ok (.iload_n 3, 1) := by decide +kernel
theorem dX9_fits_61 : decode cX9_fits 61 = .ok (.ifCond .eq 9, 3) := by decide +kernel
theorem dX9_fits_64 : decode cX9_fits 64 = .ok (.iconst 1, 1) := by decide +kernel
theorem dX9_fits_65 : decode cX9_fits 65 = .ok (.iload_n 2, 1) := by decide +kernel
theorem dX9_fits_66 : decode cX9_fits 66 = .ok (.ishl, 1) := by decide +kernel
theorem dX9_fits_67 : decode cX9_fits 67 = .ok (.goto 4, 3) := by decide +kernel
theorem dX9_fits_70 : decode cX9_fits 70 = .ok (.iconst 0, 1) := by decide +kernel
theorem dX9_fits_71 : decode cX9_fits 71 = .ok (.ior, 1) := by decide +kernel
theorem dX9_fits_72 : decode cX9_fits 72 = .ok (.istore_n 1, 1) := by decide +kernel
theorem dX9_fits_73 : decode cX9_fits 73 = .ok (.iinc 2 1, 3) := by decide +kernel
theorem dX9_fits_76 : decode cX9_fits 76 = .ok (.goto (-72), 3) := by decide +kernel
theorem dX9_fits_79 : decode cX9_fits 79 = .ok (.iload_n 1, 1) := by decide +kernel
theorem dX9_fits_80 : decode cX9_fits 80 = .ok (.ireturn, 1) := by decide +kernel
theorem dX9_event_0 : decode cX9_event 0 = .ok (.iload_n 1, 1) := by decide +kernel
theorem dX9_event_1 : decode cX9_event 1 = .ok (.iconst (-1), 1) := by decide +kernel
theorem dX9_event_2 : decode cX9_event 2 = .ok (.if_icmp .ne 10, 3) := by decide +kernel
theorem dX9_event_5 : decode cX9_event 5 = .ok (.aload_n 0, 1) := by decide +kernel
theorem dX9_event_6 : decode cX9_event 6 = .ok (.iconst 0, 1) := by decide +kernel
theorem dX9_event_7 : decode cX9_event 7 = .ok (.putfield 279, 3) := by decide +kernel
theorem dX9_event_10 : decode cX9_event 10 = .ok (.iconst 0, 1) := by decide +kernel
theorem dX9_event_11 : decode cX9_event 11 = .ok (.ireturn, 1) := by decide +kernel
theorem dX9_event_12 : decode cX9_event 12 = .ok (.iload_n 1, 1) := by decide +kernel
theorem dX9_event_13 : decode cX9_event 13 = .ok (.i2l, 1) := by decide +kernel
theorem dX9_event_14 : decode cX9_event 14 = .ok (.lconst 0, 1) := by decide +kernel
theorem dX9_event_15 : decode cX9_event 15 = .ok (.ldc2_w 152, 3) := by decide +kernel
theorem dX9_event_18 : decode cX9_event 18 = .ok (.invokestatic 105, 3) := by decide +kernel
theorem dX9_event_21 : decode cX9_event 21 = .ok (.ifCond .ne 5, 3) := by decide +kernel
theorem dX9_event_24 : decode cX9_event 24 = .ok (.iconst (-1), 1) := by decide +kernel
theorem dX9_event_25 : decode cX9_event 25 = .ok (.ireturn, 1) := by decide +kernel
theorem dX9_event_26 : decode cX9_event 26 = .ok (.iload_n 1, 1) := by decide +kernel
theorem dX9_event_27 : decode cX9_event 27 = .ok (.ifCond .ne 15, 3) := by decide +kernel
theorem dX9_event_30 : decode cX9_event 30 = .ok (.iload_n 2, 1) := by decide +kernel
theorem dX9_event_31 : decode cX9_event 31 = .ok (.i2l, 1) := by decide +kernel
theorem dX9_event_32 : decode cX9_event 32 = .ok (.lconst 0, 1) := by decide +kernel
theorem dX9_event_33 : decode cX9_event 33 = .ok (.ldc2_w 119, 3) := by decide +kernel
theorem dX9_event_36 : decode cX9_event 36 = .ok (.invokestatic 105, 3) := by decide +kernel
theorem dX9_event_39 : decode cX9_event 39 = .ok (.goto 44, 3) := by decide +kernel
theorem dX9_event_42 : decode cX9_event 42 = .ok (.iload_n 1, 1) := by decide +kernel
theorem dX9_event_43 : decode cX9_event 43 = .ok (.iconst 1, 1) := by decide +kernel
theorem dX9_event_44 : decode cX9_event 44 = .ok (.if_icmp .ne 15, 3) := by decide +kernel
theorem dX9_event_47 : decode cX9_event 47 = .ok (.iload_n 2, 1) := by decide +kernel
theorem dX9_event_48 : decode cX9_event 48 = .ok (.i2l, 1) := by decide +kernel
theorem dX9_event_49 : decode cX9_event 49 = .ok (.lconst 0, 1) := by decide +kernel
theorem dX9_event_50 : decode cX9_event 50 = .ok (.ldc2_w 282, 3) := by decide +kernel
theorem dX9_event_53 : decode cX9_event 53 = .ok (.invokestatic 105, 3) := by decide +kernel
theorem dX9_event_56 : decode cX9_event 56 = .ok (.goto 27, 3) := by decide +kernel
theorem dX9_event_59 : decode cX9_event 59 = .ok (.iload_n 2, 1) := by decide +kernel
theorem dX9_event_60 : decode cX9_event 60 = .ok (.ifCond .lt 22, 3) := by decide +kernel
theorem dX9_event_63 : decode cX9_event 63 = .ok (.aload_n 0, 1) := by decide +kernel
theorem dX9_event_64 : decode cX9_event 64 = .ok (.iload_n 2, 1) := by decide +kernel
theorem dX9_event_65 : decode cX9_event 65 = .ok (.bipush 100, 2) := by decide +kernel
theorem dX9_event_67 : decode cX9_event 67 = .ok (.idiv, 1) := by decide +kernel
theorem dX9_event_68 : decode cX9_event 68 = .ok (.iload_n 2, 1) := by decide +kernel
theorem dX9_event_69 : decode cX9_event 69 = .ok (.bipush 100, 2) := by decide +kernel
theorem dX9_event_71 : decode cX9_event 71 = .ok (.irem, 1) := by decide +kernel
theorem dX9_event_72 : decode cX9_event 72 = .ok (.invokevirtual 159, 3) := by decide +kernel
theorem dX9_event_75 : decode cX9_event 75 = .ok (.ifCond .eq 7, 3) := by decide +kernel
theorem dX9_event_78 : decode cX9_event 78 = .ok (.iconst 1, 1) := by decide +kernel
theorem dX9_event_79 : decode cX9_event 79 = .ok (.goto 4, 3) := by decide +kernel
theorem dX9_event_82 : decode cX9_event 82 = .ok (.iconst 0, 1) := by decide +kernel
theorem dX9_event_83 : decode cX9_event 83 = .ok (.istore_n 3, 1) := by decide +kernel
theorem dX9_event_84 : decode cX9_event 84 = .ok (.iload_n 3, 1) := by decide +kernel
theorem dX9_event_85 : decode cX9_event 85 = .ok (.ifCond .ne 6, 3) := by decide +kernel
theorem dX9_event_88 : decode cX9_event 88 = .ok (.bipush (-2), 2) := by decide +kernel
theorem dX9_event_90 : decode cX9_event 90 = .ok (.ireturn, 1) := by decide +kernel
theorem dX9_event_91 : decode cX9_event 91 = .ok (.aload_n 0, 1) := by decide +kernel
theorem dX9_event_92 : decode cX9_event 92 = .ok (.getfield 279, 3) := by decide +kernel
theorem dX9_event_95 : decode cX9_event 95 = .ok (.bipush 8, 2) := by decide +kernel
theorem dX9_event_97 : decode cX9_event 97 = .ok (.if_icmp .ne 6, 3) := by decide +kernel
theorem dX9_event_100 : decode cX9_event 100 = .ok (.bipush (-4), 2) := by decide +kernel
theorem dX9_event_102 : decode cX9_event 102 = .ok (.ireturn, 1) := by decide +kernel
theorem dX9_event_103 : decode cX9_event 103 = .ok (.aload_n 0, 1) := by decide +kernel
theorem dX9_event_104 : decode cX9_event 104 = .ok (.getfield 37, 3) := by decide +kernel
theorem dX9_event_107 : decode cX9_event 107 = .ok (.aload_n 0, 1) := by decide +kernel
theorem dX9_event_108 : decode cX9_event 108 = .ok (.getfield 279, 3) := by decide +kernel
theorem dX9_event_111 : decode cX9_event 111 = .ok (.iload_n 1, 1) := by decide +kernel
theorem dX9_event_112 : decode cX9_event 112 = .ok (.iastore, 1) := by decide +kernel
theorem dX9_event_113 : decode cX9_event 113 = .ok (.aload_n 0, 1) := by decide +kernel
theorem dX9_event_114 : decode cX9_event 114 = .ok (.getfield 40, 3) := by decide +kernel
theorem dX9_event_117 : decode cX9_event 117 = .ok (.aload_n 0, 1) := by decide +kernel
theorem dX9_event_118 : decode cX9_event 118 = .ok (.getfield 279, 3) := by decide +kernel
theorem dX9_event_121 : decode cX9_event 121 = .ok (.iload_n 2, 1) := by decide +kernel
theorem dX9_event_122 : decode cX9_event 122 = .ok (.iastore, 1) := by decide +kernel
theorem dX9_event_123 : decode cX9_event 123 = .ok (.aload_n 0, 1) := by decide +kernel
theorem dX9_event_124 : decode cX9_event 124 = .ok (.dup, 1) := by decide +kernel
theorem dX9_event_125 : decode cX9_event 125 = .ok (.getfield 279, 3) := by decide +kernel
theorem dX9_event_128 : decode cX9_event 128 = .ok (.iconst 1, 1) := by decide +kernel
theorem dX9_event_129 : decode cX9_event 129 = .ok (.iadd, 1) := by decide +kernel
theorem dX9_event_130 : decode cX9_event 130 = .ok (.putfield 279, 3) := by decide +kernel
theorem dX9_event_133 : decode cX9_event 133 = .ok (.aload_n 0, 1) := by decide +kernel
theorem dX9_event_134 : decode cX9_event 134 = .ok (.getfield 279, 3) := by decide +kernel
theorem dX9_event_137 : decode cX9_event 137 = .ok (.ireturn, 1) := by decide +kernel
theorem dX9_happens_0 : decode cX9_happens 0 = .ok (.iload_n 1, 1) := by decide +kernel
theorem dX9_happens_1 : decode cX9_happens 1 = .ok (.ifCond .ne 25, 3) := by decide +kernel
theorem dX9_happens_4 : decode cX9_happens 4 = .ok (.iload_n 2, 1) := by decide +kernel
theorem dX9_happens_5 : decode cX9_happens 5 = .ok (.aload_n 0, 1) := by decide +kernel
theorem dX9_happens_6 : decode cX9_happens 6 = .ok (.getfield 46, 3) := by decide +kernel
theorem dX9_happens_9 : decode cX9_happens 9 = .ok (.invokestatic 101, 3) := by decide +kernel
theorem dX9_happens_12 : decode cX9_happens 12 = .ok (.aload_n 0, 1) := by decide +kernel
theorem dX9_happens_13 : decode cX9_happens 13 = .ok (.getfield 46, 3) := by decide +kernel
theorem dX9_happens_16 : decode cX9_happens 16 = .ok (.aload_n 0, 1) := by decide +kernel
theorem dX9_happens_17 : decode cX9_happens 17 = .ok (.getfield 49, 3) := by decide +kernel
theorem dX9_happens_20 : decode cX9_happens 20 = .ok (.invokestatic 123, 3) := by decide +kernel
theorem dX9_happens_23 : decode cX9_happens 23 = .ok (.goto 49, 3) := by decide +kernel
theorem dX9_happens_26 : decode cX9_happens 26 = .ok (.iload_n 1, 1) := by decide +kernel
theorem dX9_happens_27 : decode cX9_happens 27 = .ok (.iconst 1, 1) := by decide +kernel
theorem dX9_happens_28 : decode cX9_happens 28 = .ok (.if_icmp .ne 11, 3) := by decide +kernel
theorem dX9_happens_31 : decode cX9_happens 31 = .ok (.aload_n 0, 1) := by decide +kernel
theorem dX9_happens_32 : decode cX9_happens 32 = .ok (.iload_n 2, 1) := by decide +kernel
theorem dX9_happens_33 : decode cX9_happens 33 = .ok (.invokevirtual 192, 3) := by decide +kernel
theorem dX9_happens_36 : decode cX9_happens 36 = .ok (.goto 36, 3) := by decide +kernel
theorem dX9_happens_39 : decode cX9_happens 39 = .ok (.aload_n 0, 1) := by decide +kernel
theorem dX9_happens_40 : decode cX9_happens 40 = .ok (.iload_n 2, 1) := by decide +kernel
theorem dX9_happens_41 : decode cX9_happens 41 = .ok (.bipush 100, 2) := by decide +kernel
theorem dX9_happens_43 : decode cX9_happens 43 = .ok (.idiv, 1) := by decide +kernel
theorem dX9_happens_44 : decode cX9_happens 44 = .ok (.iload_n 2, 1) := by decide +kernel
theorem dX9_happens_45 : decode cX9_happens 45 = .ok (.bipush 100, 2) := by decide +kernel
theorem dX9_happens_47 : decode cX9_happens 47 = .ok (.irem, 1) := by decide +kernel
theorem dX9_happens_48 : decode cX9_happens 48 = .ok (.invokevirtual 159, 3) := by decide +kernel
theorem dX9_happens_51 : decode cX9_happens 51 = .ok (.ifCond .eq 21, 3) := by decide +kernel
theorem dX9_happens_54 : decode cX9_happens 54 = .ok (.aload_n 0, 1) := by decide +kernel
theorem dX9_happens_55 : decode cX9_happens 55 = .ok (.getfield 43, 3) := by decide +kernel
theorem dX9_happens_58 : decode cX9_happens 58 = .ok (.iload_n 2, 1) := by decide +kernel
theorem dX9_happens_59 : decode cX9_happens 59 = .ok (.bipush 100, 2) := by decide +kernel
theorem dX9_happens_61 : decode cX9_happens 61 = .ok (.irem, 1) := by decide +kernel
theorem dX9_happens_62 : decode cX9_happens 62 = .ok (.dup2, 1) := by decide +kernel
theorem dX9_happens_63 : decode cX9_happens 63 = .ok (.iaload, 1) := by decide +kernel
theorem dX9_happens_64 : decode cX9_happens 64 = .ok (.iconst 1, 1) := by decide +kernel
theorem dX9_happens_65 : decode cX9_happens 65 = .ok (.iload_n 2, 1) := by decide +kernel
theorem dX9_happens_66 : decode cX9_happens 66 = .ok (.bipush 100, 2) := by decide +kernel
theorem dX9_happens_68 : decode cX9_happens 68 = .ok (.idiv, 1) := by decide +kernel
theorem dX9_happens_69 : decode cX9_happens 69 = .ok (.ishl, 1) := by decide +kernel
theorem dX9_happens_70 : decode cX9_happens 70 = .ok (.ixor, 1) := by decide +kernel
theorem dX9_happens_71 : decode cX9_happens 71 = .ok (.iastore, 1) := by decide +kernel
theorem dX9_happens_72 : decode cX9_happens 72 = .ok (.return_, 1) := by decide +kernel
theorem dX9_after_0 : decode cX9_after 0 = .ok (.iload_n 1, 1) := by decide +kernel
theorem dX9_after_1 : decode cX9_after 1 = .ok (.i2l, 1) := by decide +kernel
theorem dX9_after_2 : decode cX9_after 2 = .ok (.lconst 0, 1) := by decide +kernel
theorem dX9_after_3 : decode cX9_after 3 = .ok (.lconst 1, 1) := by decide +kernel
theorem dX9_after_4 : decode cX9_after 4 = .ok (.invokestatic 105, 3) := by decide +kernel
theorem dX9_after_7 : decode cX9_after 7 = .ok (.ifCond .ne 5, 3) := by decide +kernel
theorem dX9_after_10 : decode cX9_after 10 = .ok (.iconst (-1), 1) := by decide +kernel
theorem dX9_after_11 : decode cX9_after 11 = .ok (.ireturn, 1) := by decide +kernel
theorem dX9_after_12 : decode cX9_after 12 = .ok (.aload_n 0, 1) := by decide +kernel
theorem dX9_after_13 : decode cX9_after 13 = .ok (.invokevirtual 189, 3) := by decide +kernel
theorem dX9_after_16 : decode cX9_after 16 = .ok (.iconst 0, 1) := by decide +kernel
theorem dX9_after_17 : decode cX9_after 17 = .ok (.istore_n 2, 1) := by decide +kernel
theorem dX9_after_18 : decode cX9_after 18 = .ok (.iload_n 2, 1) := by decide +kernel
theorem dX9_after_19 : decode cX9_after 19 = .ok (.aload_n 0, 1) := by decide +kernel
theorem dX9_after_20 : decode cX9_after 20 = .ok (.getfield 279, 3) := by decide +kernel
theorem dX9_after_23 : decode cX9_after 23 = .ok (.if_icmp .ge 25, 3) := by decide +kernel
theorem dX9_after_26 : decode cX9_after 26 = .ok (.aload_n 0, 1) := by decide +kernel
theorem dX9_after_27 : decode cX9_after 27 = .ok (.aload_n 0, 1) := by decide +kernel
theorem dX9_after_28 : decode cX9_after 28 = .ok (.getfield 37, 3) := by decide +kernel
theorem dX9_after_31 : decode cX9_after 31 = .ok (.iload_n 2, 1) := by decide +kernel
theorem dX9_after_32 : decode cX9_after 32 = .ok (.iaload, 1) := by decide +kernel
theorem dX9_after_33 : decode cX9_after 33 = .ok (.aload_n 0, 1) := by decide +kernel
theorem dX9_after_34 : decode cX9_after 34 = .ok (.getfield 40, 3) := by decide +kernel
theorem dX9_after_37 : decode cX9_after 37 = .ok (.iload_n 2, 1) := by decide +kernel
theorem dX9_after_38 : decode cX9_after 38 = .ok (.iaload, 1) := by decide +kernel
theorem dX9_after_39 : decode cX9_after 39 = .ok (.invokevirtual 284, 3) := by decide +kernel
theorem dX9_after_42 : decode cX9_after 42 = .ok (.iinc 2 1, 3) := by decide +kernel
theorem dX9_after_45 : decode cX9_after 45 = .ok (.goto (-27), 3) := by decide +kernel
theorem dX9_after_48 : decode cX9_after 48 = .ok (.aload_n 0, 1) := by decide +kernel
theorem dX9_after_49 : decode cX9_after 49 = .ok (.aload_n 0, 1) := by decide +kernel
theorem dX9_after_50 : decode cX9_after 50 = .ok (.getfield 43, 3) := by decide +kernel
theorem dX9_after_53 : decode cX9_after 53 = .ok (.invokevirtual 171, 3) := by decide +kernel
theorem dX9_after_56 : decode cX9_after 56 = .ok (.iload_n 1, 1) := by decide +kernel
theorem dX9_after_57 : decode cX9_after 57 = .ok (.ifCond .ne 14, 3) := by decide +kernel
theorem dX9_after_60 : decode cX9_after 60 = .ok (.aload_n 0, 1) := by decide +kernel
theorem dX9_after_61 : decode cX9_after 61 = .ok (.aload_n 0, 1) := by decide +kernel
theorem dX9_after_62 : decode cX9_after 62 = .ok (.getfield 43, 3) := by decide +kernel
theorem dX9_after_65 : decode cX9_after 65 = .ok (.invokevirtual 163, 3) := by decide +kernel
theorem dX9_after_68 : decode cX9_after 68 = .ok (.goto 7, 3) := by decide +kernel
theorem dX9_after_71 : decode cX9_after 71 = .ok (.aload_n 0, 1) := by decide +kernel
theorem dX9_after_72 : decode cX9_after 72 = .ok (.getfield 175, 3) := by decide +kernel
theorem dX9_after_75 : decode cX9_after 75 = .ok (.ireturn, 1) := by decide +kernel
theorem dX9_carries_0 : decode cX9_carries 0 = .ok (.iconst 0, 1) := by decide +kernel
theorem dX9_carries_1 : decode cX9_carries 1 = .ok (.istore 5, 2) := by decide +kernel
theorem dX9_carries_3 : decode cX9_carries 3 = .ok (.iload 5, 2) := by decide +kernel
theorem dX9_carries_5 : decode cX9_carries 5 = .ok (.iload_n 2, 1) := by decide +kernel
theorem dX9_carries_6 : decode cX9_carries 6 = .ok (.if_icmp .ge 43, 3) := by decide +kernel
theorem dX9_carries_9 : decode cX9_carries 9 = .ok (.iload 4, 2) := by decide +kernel
theorem dX9_carries_11 : decode cX9_carries 11 = .ok (.ifCond .eq 19, 3) := by decide +kernel
theorem dX9_carries_14 : decode cX9_carries 14 = .ok (.aload_n 1, 1) := by decide +kernel
theorem dX9_carries_15 : decode cX9_carries 15 = .ok (.iload 5, 2) := by decide +kernel
theorem dX9_carries_17 : decode cX9_carries 17 = .ok (.aload_n 0, 1) := by decide +kernel
theorem dX9_carries_18 : decode cX9_carries 18 = .ok (.getfield 98, 3) := by decide +kernel
theorem dX9_carries_21 : decode cX9_carries 21 = .ok (.iload_n 3, 1) := by decide +kernel
theorem dX9_carries_22 : decode cX9_carries 22 = .ok (.iload 5, 2) := by decide +kernel
theorem dX9_carries_24 : decode cX9_carries 24 = .ok (.iadd, 1) := by decide +kernel
theorem dX9_carries_25 : decode cX9_carries 25 = .ok (.iaload, 1) := by decide +kernel
theorem dX9_carries_26 : decode cX9_carries 26 = .ok (.iastore, 1) := by decide +kernel
theorem dX9_carries_27 : decode cX9_carries 27 = .ok (.goto 16, 3) := by decide +kernel
theorem dX9_carries_30 : decode cX9_carries 30 = .ok (.aload_n 0, 1) := by decide +kernel
theorem dX9_carries_31 : decode cX9_carries 31 = .ok (.getfield 98, 3) := by decide +kernel
theorem dX9_carries_34 : decode cX9_carries 34 = .ok (.iload_n 3, 1) := by decide +kernel
theorem dX9_carries_35 : decode cX9_carries 35 = .ok (.iload 5, 2) := by decide +kernel
theorem dX9_carries_37 : decode cX9_carries 37 = .ok (.iadd, 1) := by decide +kernel
theorem dX9_carries_38 : decode cX9_carries 38 = .ok (.aload_n 1, 1) := by decide +kernel
theorem dX9_carries_39 : decode cX9_carries 39 = .ok (.iload 5, 2) := by decide +kernel
theorem dX9_carries_41 : decode cX9_carries 41 = .ok (.iaload, 1) := by decide +kernel
theorem dX9_carries_42 : decode cX9_carries 42 = .ok (.iastore, 1) := by decide +kernel
theorem dX9_carries_43 : decode cX9_carries 43 = .ok (.iinc 5 1, 3) := by decide +kernel
theorem dX9_carries_46 : decode cX9_carries 46 = .ok (.goto (-43), 3) := by decide +kernel
theorem dX9_carries_49 : decode cX9_carries 49 = .ok (.iload_n 3, 1) := by decide +kernel
theorem dX9_carries_50 : decode cX9_carries 50 = .ok (.iload_n 2, 1) := by decide +kernel
theorem dX9_carries_51 : decode cX9_carries 51 = .ok (.iadd, 1) := by decide +kernel
theorem dX9_carries_52 : decode cX9_carries 52 = .ok (.ireturn, 1) := by decide +kernel
theorem dX9_carriesAll_0 : decode cX9_carriesAll 0 = .ok (.aload_n 0, 1) := by decide +kernel
theorem dX9_carriesAll_1 : decode cX9_carriesAll 1 = .ok (.aload_n 0, 1) := by decide +kernel
theorem dX9_carriesAll_2 : decode cX9_carriesAll 2 = .ok (.getfield 18, 3) := by decide +kernel
theorem dX9_carriesAll_5 : decode cX9_carriesAll 5 = .ok (.bipush 16, 2) := by decide +kernel
theorem dX9_carriesAll_7 : decode cX9_carriesAll 7 = .ok (.iconst 5, 1) := by decide +kernel
theorem dX9_carriesAll_8 : decode cX9_carriesAll 8 = .ok (.iload_n 1, 1) := by decide +kernel
theorem dX9_carriesAll_9 : decode cX9_carriesAll 9 = .ok (.invokevirtual 288, 3) := by decide +kernel
theorem dX9_carriesAll_12 : decode cX9_carriesAll 12 = .ok (.istore_n 2, 1) := by decide +kernel
theorem dX9_carriesAll_13 : decode cX9_carriesAll 13 = .ok (.aload_n 0, 1) := by decide +kernel
theorem dX9_carriesAll_14 : decode cX9_carriesAll 14 = .ok (.aload_n 0, 1) := by decide +kernel
theorem dX9_carriesAll_15 : decode cX9_carriesAll 15 = .ok (.getfield 22, 3) := by decide +kernel
theorem dX9_carriesAll_18 : decode cX9_carriesAll 18 = .ok (.bipush 16, 2) := by decide +kernel
theorem dX9_carriesAll_20 : decode cX9_carriesAll 20 = .ok (.iload_n 2, 1) := by decide +kernel
theorem dX9_carriesAll_21 : decode cX9_carriesAll 21 = .ok (.iload_n 1, 1) := by decide +kernel
theorem dX9_carriesAll_22 : decode cX9_carriesAll 22 = .ok (.invokevirtual 288, 3) := by decide +kernel
theorem dX9_carriesAll_25 : decode cX9_carriesAll 25 = .ok (.istore_n 2, 1) := by decide +kernel
theorem dX9_carriesAll_26 : decode cX9_carriesAll 26 = .ok (.aload_n 0, 1) := by decide +kernel
theorem dX9_carriesAll_27 : decode cX9_carriesAll 27 = .ok (.aload_n 0, 1) := by decide +kernel
theorem dX9_carriesAll_28 : decode cX9_carriesAll 28 = .ok (.getfield 28, 3) := by decide +kernel
theorem dX9_carriesAll_31 : decode cX9_carriesAll 31 = .ok (.iconst 5, 1) := by decide +kernel
theorem dX9_carriesAll_32 : decode cX9_carriesAll 32 = .ok (.iload_n 2, 1) := by decide +kernel
theorem dX9_carriesAll_33 : decode cX9_carriesAll 33 = .ok (.iload_n 1, 1) := by decide +kernel
theorem dX9_carriesAll_34 : decode cX9_carriesAll 34 = .ok (.invokevirtual 288, 3) := by decide +kernel
theorem dX9_carriesAll_37 : decode cX9_carriesAll 37 = .ok (.istore_n 2, 1) := by decide +kernel
theorem dX9_carriesAll_38 : decode cX9_carriesAll 38 = .ok (.aload_n 0, 1) := by decide +kernel
theorem dX9_carriesAll_39 : decode cX9_carriesAll 39 = .ok (.aload_n 0, 1) := by decide +kernel
theorem dX9_carriesAll_40 : decode cX9_carriesAll 40 = .ok (.getfield 31, 3) := by decide +kernel
theorem dX9_carriesAll_43 : decode cX9_carriesAll 43 = .ok (.iconst 5, 1) := by decide +kernel
theorem dX9_carriesAll_44 : decode cX9_carriesAll 44 = .ok (.iload_n 2, 1) := by decide +kernel
theorem dX9_carriesAll_45 : decode cX9_carriesAll 45 = .ok (.iload_n 1, 1) := by decide +kernel
theorem dX9_carriesAll_46 : decode cX9_carriesAll 46 = .ok (.invokevirtual 288, 3) := by decide +kernel
theorem dX9_carriesAll_49 : decode cX9_carriesAll 49 = .ok (.istore_n 2, 1) := by decide +kernel
theorem dX9_carriesAll_50 : decode cX9_carriesAll 50 = .ok (.aload_n 0, 1) := by decide +kernel
theorem dX9_carriesAll_51 : decode cX9_carriesAll 51 = .ok (.aload_n 0, 1) := by decide +kernel
theorem dX9_carriesAll_52 : decode cX9_carriesAll 52 = .ok (.getfield 34, 3) := by decide +kernel
theorem dX9_carriesAll_55 : decode cX9_carriesAll 55 = .ok (.iconst 5, 1) := by decide +kernel
theorem dX9_carriesAll_56 : decode cX9_carriesAll 56 = .ok (.iload_n 2, 1) := by decide +kernel
theorem dX9_carriesAll_57 : decode cX9_carriesAll 57 = .ok (.iload_n 1, 1) := by decide +kernel
theorem dX9_carriesAll_58 : decode cX9_carriesAll 58 = .ok (.invokevirtual 288, 3) := by decide +kernel
theorem dX9_carriesAll_61 : decode cX9_carriesAll 61 = .ok (.pop, 1) := by decide +kernel
theorem dX9_carriesAll_62 : decode cX9_carriesAll 62 = .ok (.iconst 0, 1) := by decide +kernel
theorem dX9_carriesAll_63 : decode cX9_carriesAll 63 = .ok (.istore_n 3, 1) := by decide +kernel
theorem dX9_carriesAll_64 : decode cX9_carriesAll 64 = .ok (.iload_n 3, 1) := by decide +kernel
theorem dX9_carriesAll_65 : decode cX9_carriesAll 65 = .ok (.bipush 8, 2) := by decide +kernel
theorem dX9_carriesAll_67 : decode cX9_carriesAll 67 = .ok (.if_icmp .ge 80, 3) := by decide +kernel
theorem dX9_carriesAll_70 : decode cX9_carriesAll 70 = .ok (.iload_n 1, 1) := by decide +kernel
theorem dX9_carriesAll_71 : decode cX9_carriesAll 71 = .ok (.ifCond .eq 44, 3) := by decide +kernel
theorem dX9_carriesAll_74 : decode cX9_carriesAll 74 = .ok (.aload_n 0, 1) := by decide +kernel
theorem dX9_carriesAll_75 : decode cX9_carriesAll 75 = .ok (.getfield 37, 3) := by decide +kernel
theorem dX9_carriesAll_78 : decode cX9_carriesAll 78 = .ok (.iload_n 3, 1) := by decide +kernel
theorem dX9_carriesAll_79 : decode cX9_carriesAll 79 = .ok (.aload_n 0, 1) := by decide +kernel
theorem dX9_carriesAll_80 : decode cX9_carriesAll 80 = .ok (.getfield 98, 3) := by decide +kernel
theorem dX9_carriesAll_83 : decode cX9_carriesAll 83 = .ok (.bipush 52, 2) := by decide +kernel
theorem dX9_carriesAll_85 : decode cX9_carriesAll 85 = .ok (.iload_n 3, 1) := by decide +kernel
theorem dX9_carriesAll_86 : decode cX9_carriesAll 86 = .ok (.iadd, 1) := by decide +kernel
theorem dX9_carriesAll_87 : decode cX9_carriesAll 87 = .ok (.iaload, 1) := by decide +kernel
theorem dX9_carriesAll_88 : decode cX9_carriesAll 88 = .ok (.sipush 10000, 3) := by decide +kernel
theorem dX9_carriesAll_91 : decode cX9_carriesAll 91 = .ok (.idiv, 1) := by decide +kernel
theorem dX9_carriesAll_92 : decode cX9_carriesAll 92 = .ok (.iastore, 1) := by decide +kernel
theorem dX9_carriesAll_93 : decode cX9_carriesAll 93 = .ok (.aload_n 0, 1) := by decide +kernel
theorem dX9_carriesAll_94 : decode cX9_carriesAll 94 = .ok (.getfield 40, 3) := by decide +kernel
theorem dX9_carriesAll_97 : decode cX9_carriesAll 97 = .ok (.iload_n 3, 1) := by decide +kernel
theorem dX9_carriesAll_98 : decode cX9_carriesAll 98 = .ok (.aload_n 0, 1) := by decide +kernel
theorem dX9_carriesAll_99 : decode cX9_carriesAll 99 = .ok (.getfield 98, 3) := by decide +kernel
theorem dX9_carriesAll_102 : decode cX9_carriesAll 102 = .ok (.bipush 52, 2) := by decide +kernel
theorem dX9_carriesAll_104 : decode cX9_carriesAll 104 = .ok (.iload_n 3, 1) := by decide +kernel
theorem dX9_carriesAll_105 : decode cX9_carriesAll 105 = .ok (.iadd, 1) := by decide +kernel
theorem dX9_carriesAll_106 : decode cX9_carriesAll 106 = .ok (.iaload, 1) := by decide +kernel
theorem dX9_carriesAll_107 : decode cX9_carriesAll 107 = .ok (.sipush 10000, 3) := by decide +kernel
theorem dX9_carriesAll_110 : decode cX9_carriesAll 110 = .ok (.irem, 1) := by decide +kernel
theorem dX9_carriesAll_111 : decode cX9_carriesAll 111 = .ok (.iastore, 1) := by decide +kernel
theorem dX9_carriesAll_112 : decode cX9_carriesAll 112 = .ok (.goto 29, 3) := by decide +kernel
theorem dX9_carriesAll_115 : decode cX9_carriesAll 115 = .ok (.aload_n 0, 1) := by decide +kernel
theorem dX9_carriesAll_116 : decode cX9_carriesAll 116 = .ok (.getfield 98, 3) := by decide +kernel
theorem dX9_carriesAll_119 : decode cX9_carriesAll 119 = .ok (.bipush 52, 2) := by decide +kernel
theorem dX9_carriesAll_121 : decode cX9_carriesAll 121 = .ok (.iload_n 3, 1) := by decide +kernel
theorem dX9_carriesAll_122 : decode cX9_carriesAll 122 = .ok (.iadd, 1) := by decide +kernel
theorem dX9_carriesAll_123 : decode cX9_carriesAll 123 = .ok (.sipush 10000, 3) := by decide +kernel
theorem dX9_carriesAll_126 : decode cX9_carriesAll 126 = .ok (.aload_n 0, 1) := by decide +kernel
theorem dX9_carriesAll_127 : decode cX9_carriesAll 127 = .ok (.getfield 37, 3) := by decide +kernel
theorem dX9_carriesAll_130 : decode cX9_carriesAll 130 = .ok (.iload_n 3, 1) := by decide +kernel
theorem dX9_carriesAll_131 : decode cX9_carriesAll 131 = .ok (.iaload, 1) := by decide +kernel
theorem dX9_carriesAll_132 : decode cX9_carriesAll 132 = .ok (.imul, 1) := by decide +kernel
theorem dX9_carriesAll_133 : decode cX9_carriesAll 133 = .ok (.aload_n 0, 1) := by decide +kernel
theorem dX9_carriesAll_134 : decode cX9_carriesAll 134 = .ok (.getfield 40, 3) := by decide +kernel
theorem dX9_carriesAll_137 : decode cX9_carriesAll 137 = .ok (.iload_n 3, 1) := by decide +kernel
theorem dX9_carriesAll_138 : decode cX9_carriesAll 138 = .ok (.iaload, 1) := by decide +kernel
theorem dX9_carriesAll_139 : decode cX9_carriesAll 139 = .ok (.iadd, 1) := by decide +kernel
theorem dX9_carriesAll_140 : decode cX9_carriesAll 140 = .ok (.iastore, 1) := by decide +kernel
theorem dX9_carriesAll_141 : decode cX9_carriesAll 141 = .ok (.iinc 3 1, 3) := by decide +kernel
theorem dX9_carriesAll_144 : decode cX9_carriesAll 144 = .ok (.goto (-80), 3) := by decide +kernel
theorem dX9_carriesAll_147 : decode cX9_carriesAll 147 = .ok (.return_, 1) := by decide +kernel
theorem dX9_image_0 : decode cX9_image 0 = .ok (.aload_n 0, 1) := by decide +kernel
theorem dX9_image_1 : decode cX9_image 1 = .ok (.getfield 98, 3) := by decide +kernel
theorem dX9_image_4 : decode cX9_image 4 = .ok (.iconst 0, 1) := by decide +kernel
theorem dX9_image_5 : decode cX9_image 5 = .ok (.aload_n 0, 1) := by decide +kernel
theorem dX9_image_6 : decode cX9_image 6 = .ok (.getfield 9, 3) := by decide +kernel
theorem dX9_image_9 : decode cX9_image 9 = .ok (.iastore, 1) := by decide +kernel
theorem dX9_image_10 : decode cX9_image 10 = .ok (.aload_n 0, 1) := by decide +kernel
theorem dX9_image_11 : decode cX9_image 11 = .ok (.getfield 98, 3) := by decide +kernel
theorem dX9_image_14 : decode cX9_image 14 = .ok (.iconst 1, 1) := by decide +kernel
theorem dX9_image_15 : decode cX9_image 15 = .ok (.aload_n 0, 1) := by decide +kernel
theorem dX9_image_16 : decode cX9_image 16 = .ok (.getfield 15, 3) := by decide +kernel
theorem dX9_image_19 : decode cX9_image 19 = .ok (.iastore, 1) := by decide +kernel
theorem dX9_image_20 : decode cX9_image 20 = .ok (.aload_n 0, 1) := by decide +kernel
theorem dX9_image_21 : decode cX9_image 21 = .ok (.getfield 98, 3) := by decide +kernel
theorem dX9_image_24 : decode cX9_image 24 = .ok (.iconst 2, 1) := by decide +kernel
theorem dX9_image_25 : decode cX9_image 25 = .ok (.aload_n 0, 1) := by decide +kernel
theorem dX9_image_26 : decode cX9_image 26 = .ok (.getfield 142, 3) := by decide +kernel
theorem dX9_image_29 : decode cX9_image 29 = .ok (.iastore, 1) := by decide +kernel
theorem dX9_image_30 : decode cX9_image 30 = .ok (.aload_n 0, 1) := by decide +kernel
theorem dX9_image_31 : decode cX9_image 31 = .ok (.getfield 98, 3) := by decide +kernel
theorem dX9_image_34 : decode cX9_image 34 = .ok (.iconst 3, 1) := by decide +kernel
theorem dX9_image_35 : decode cX9_image 35 = .ok (.aload_n 0, 1) := by decide +kernel
theorem dX9_image_36 : decode cX9_image 36 = .ok (.getfield 266, 3) := by decide +kernel
theorem dX9_image_39 : decode cX9_image 39 = .ok (.iastore, 1) := by decide +kernel
theorem dX9_image_40 : decode cX9_image 40 = .ok (.aload_n 0, 1) := by decide +kernel
theorem dX9_image_41 : decode cX9_image 41 = .ok (.getfield 98, 3) := by decide +kernel
theorem dX9_image_44 : decode cX9_image 44 = .ok (.iconst 4, 1) := by decide +kernel
theorem dX9_image_45 : decode cX9_image 45 = .ok (.aload_n 0, 1) := by decide +kernel
theorem dX9_image_46 : decode cX9_image 46 = .ok (.getfield 279, 3) := by decide +kernel
theorem dX9_image_49 : decode cX9_image 49 = .ok (.iastore, 1) := by decide +kernel
theorem dX9_image_50 : decode cX9_image 50 = .ok (.aload_n 0, 1) := by decide +kernel
theorem dX9_image_51 : decode cX9_image 51 = .ok (.iconst 0, 1) := by decide +kernel
theorem dX9_image_52 : decode cX9_image 52 = .ok (.invokevirtual 292, 3) := by decide +kernel
theorem dX9_image_55 : decode cX9_image 55 = .ok (.aload_n 0, 1) := by decide +kernel
theorem dX9_image_56 : decode cX9_image 56 = .ok (.iconst 1, 1) := by decide +kernel
theorem dX9_image_57 : decode cX9_image 57 = .ok (.putfield 296, 3) := by decide +kernel
theorem dX9_image_60 : decode cX9_image 60 = .ok (.aload_n 0, 1) := by decide +kernel
theorem dX9_image_61 : decode cX9_image 61 = .ok (.aload_n 0, 1) := by decide +kernel
theorem dX9_image_62 : decode cX9_image 62 = .ok (.getfield 18, 3) := by decide +kernel
theorem dX9_image_65 : decode cX9_image 65 = .ok (.invokevirtual 163, 3) := by decide +kernel
theorem dX9_image_68 : decode cX9_image 68 = .ok (.ireturn, 1) := by decide +kernel
theorem dX9_back_0 : decode cX9_back 0 = .ok (.aload_n 0, 1) := by decide +kernel
theorem dX9_back_1 : decode cX9_back 1 = .ok (.getfield 296, 3) := by decide +kernel
theorem dX9_back_4 : decode cX9_back 4 = .ok (.ifCond .ne 6, 3) := by decide +kernel
theorem dX9_back_7 : decode cX9_back 7 = .ok (.bipush (-3), 2) := by decide +kernel
theorem dX9_back_9 : decode cX9_back 9 = .ok (.ireturn, 1) := by decide +kernel
theorem dX9_back_10 : decode cX9_back 10 = .ok (.aload_n 0, 1) := by decide +kernel
theorem dX9_back_11 : decode cX9_back 11 = .ok (.aload_n 0, 1) := by decide +kernel
theorem dX9_back_12 : decode cX9_back 12 = .ok (.getfield 98, 3) := by decide +kernel
theorem dX9_back_15 : decode cX9_back 15 = .ok (.iconst 0, 1) := by decide +kernel
theorem dX9_back_16 : decode cX9_back 16 = .ok (.iaload, 1) := by decide +kernel
theorem dX9_back_17 : decode cX9_back 17 = .ok (.putfield 9, 3) := by decide +kernel
theorem dX9_back_20 : decode cX9_back 20 = .ok (.aload_n 0, 1) := by decide +kernel
theorem dX9_back_21 : decode cX9_back 21 = .ok (.aload_n 0, 1) := by decide +kernel
theorem dX9_back_22 : decode cX9_back 22 = .ok (.getfield 98, 3) := by decide +kernel
theorem dX9_back_25 : decode cX9_back 25 = .ok (.iconst 1, 1) := by decide +kernel
theorem dX9_back_26 : decode cX9_back 26 = .ok (.iaload, 1) := by decide +kernel
theorem dX9_back_27 : decode cX9_back 27 = .ok (.putfield 15, 3) := by decide +kernel
theorem dX9_back_30 : decode cX9_back 30 = .ok (.aload_n 0, 1) := by decide +kernel
theorem dX9_back_31 : decode cX9_back 31 = .ok (.aload_n 0, 1) := by decide +kernel
theorem dX9_back_32 : decode cX9_back 32 = .ok (.getfield 98, 3) := by decide +kernel
theorem dX9_back_35 : decode cX9_back 35 = .ok (.iconst 2, 1) := by decide +kernel
theorem dX9_back_36 : decode cX9_back 36 = .ok (.iaload, 1) := by decide +kernel
theorem dX9_back_37 : decode cX9_back 37 = .ok (.putfield 142, 3) := by decide +kernel
theorem dX9_back_40 : decode cX9_back 40 = .ok (.aload_n 0, 1) := by decide +kernel
theorem dX9_back_41 : decode cX9_back 41 = .ok (.aload_n 0, 1) := by decide +kernel
theorem dX9_back_42 : decode cX9_back 42 = .ok (.getfield 98, 3) := by decide +kernel
theorem dX9_back_45 : decode cX9_back 45 = .ok (.iconst 3, 1) := by decide +kernel
theorem dX9_back_46 : decode cX9_back 46 = .ok (.iaload, 1) := by decide +kernel
theorem dX9_back_47 : decode cX9_back 47 = .ok (.putfield 266, 3) := by decide +kernel
theorem dX9_back_50 : decode cX9_back 50 = .ok (.aload_n 0, 1) := by decide +kernel
theorem dX9_back_51 : decode cX9_back 51 = .ok (.aload_n 0, 1) := by decide +kernel
theorem dX9_back_52 : decode cX9_back 52 = .ok (.getfield 98, 3) := by decide +kernel
theorem dX9_back_55 : decode cX9_back 55 = .ok (.iconst 4, 1) := by decide +kernel
theorem dX9_back_56 : decode cX9_back 56 = .ok (.iaload, 1) := by decide +kernel
theorem dX9_back_57 : decode cX9_back 57 = .ok (.putfield 279, 3) := by decide +kernel
theorem dX9_back_60 : decode cX9_back 60 = .ok (.aload_n 0, 1) := by decide +kernel
theorem dX9_back_61 : decode cX9_back 61 = .ok (.iconst 1, 1) := by decide +kernel
theorem dX9_back_62 : decode cX9_back 62 = .ok (.invokevirtual 292, 3) := by decide +kernel
theorem dX9_back_65 : decode cX9_back 65 = .ok (.aload_n 0, 1) := by decide +kernel
theorem dX9_back_66 : decode cX9_back 66 = .ok (.iconst 0, 1) := by decide +kernel
theorem dX9_back_67 : decode cX9_back 67 = .ok (.putfield 156, 3) := by decide +kernel
theorem dX9_back_70 : decode cX9_back 70 = .ok (.aload_n 0, 1) := by decide +kernel
theorem dX9_back_71 : decode cX9_back 71 = .ok (.aload_n 0, 1) := by decide +kernel
theorem dX9_back_72 : decode cX9_back 72 = .ok (.getfield 18, 3) := by decide +kernel
theorem dX9_back_75 : decode cX9_back 75 = .ok (.invokevirtual 163, 3) := by decide +kernel
theorem dX9_back_78 : decode cX9_back 78 = .ok (.ireturn, 1) := by decide +kernel
theorem dX9_count_0 : decode cX9_count 0 = .ok (.iload_n 1, 1) := by decide +kernel
theorem dX9_count_1 : decode cX9_count 1 = .ok (.tableswitch 51 0 3 #[31, 36, 41, 46], 31) := by decide +kernel
theorem dX9_count_32 : decode cX9_count 32 = .ok (.aload_n 0, 1) := by decide +kernel
theorem dX9_count_33 : decode cX9_count 33 = .ok (.getfield 266, 3) := by decide +kernel
theorem dX9_count_36 : decode cX9_count 36 = .ok (.ireturn, 1) := by decide +kernel
theorem dX9_count_37 : decode cX9_count 37 = .ok (.aload_n 0, 1) := by decide +kernel
theorem dX9_count_38 : decode cX9_count 38 = .ok (.getfield 279, 3) := by decide +kernel
theorem dX9_count_41 : decode cX9_count 41 = .ok (.ireturn, 1) := by decide +kernel
theorem dX9_count_42 : decode cX9_count 42 = .ok (.aload_n 0, 1) := by decide +kernel
theorem dX9_count_43 : decode cX9_count 43 = .ok (.getfield 240, 3) := by decide +kernel
theorem dX9_count_46 : decode cX9_count 46 = .ok (.ireturn, 1) := by decide +kernel
theorem dX9_count_47 : decode cX9_count 47 = .ok (.aload_n 0, 1) := by decide +kernel
theorem dX9_count_48 : decode cX9_count 48 = .ok (.getfield 252, 3) := by decide +kernel
theorem dX9_count_51 : decode cX9_count 51 = .ok (.ireturn, 1) := by decide +kernel
theorem dX9_count_52 : decode cX9_count 52 = .ok (.bipush (-2), 2) := by decide +kernel
theorem dX9_count_54 : decode cX9_count 54 = .ok (.ireturn, 1) := by decide +kernel
