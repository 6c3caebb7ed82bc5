theorem dX3_sumTurns_115 : decode cX3_sumTurns 115 = .ok (.goto (-48), 3) := by decide +kernel
theorem dX3_sumTurns_118 : decode cX3_sumTurns 118 = .ok (.return_, 1) := by decide +kernel
theorem dX4_init_0 : decode cX4_init 0 = .ok (.aload_n 0, 1) := by decide +kernel
theorem dX4_init_1 : decode cX4_init 1 = .ok (.invokespecial 1, 3) := by decide +kernel
theorem dX4_init_4 : decode cX4_init 4 = .ok (.aload_n 0, 1) := by decide +kernel
theorem dX4_init_5 : decode cX4_init 5 = .ok (.sipush 600, 3) := by decide +kernel
theorem dX4_init_8 : decode cX4_init 8 = .ok (.newarray .int, 2) := by decide +kernel
theorem dX4_init_10 : decode cX4_init 10 = .ok (.putfield 7, 3) := by decide +kernel
theorem dX4_init_13 : decode cX4_init 13 = .ok (.aload_n 0, 1) := by decide +kernel
theorem dX4_init_14 : decode cX4_init 14 = .ok (.bipush 80, 2) := by decide +kernel
theorem dX4_init_16 : decode cX4_init 16 = .ok (.newarray .long, 2) := by decide +kernel
theorem dX4_init_18 : decode cX4_init 18 = .ok (.putfield 13, 3) := by decide +kernel
theorem dX4_init_21 : decode cX4_init 21 = .ok (.aload_n 0, 1) := by decide +kernel
theorem dX4_init_22 : decode cX4_init 22 = .ok (.bipush 16, 2) := by decide +kernel
theorem dX4_init_24 : decode cX4_init 24 = .ok (.newarray .long, 2) := by decide +kernel
theorem dX4_init_26 : decode cX4_init 26 = .ok (.putfield 17, 3) := by decide +kernel
theorem dX4_init_29 : decode cX4_init 29 = .ok (.aload_n 0, 1) := by decide +kernel
theorem dX4_init_30 : decode cX4_init 30 = .ok (.bipush 9, 2) := by decide +kernel
theorem dX4_init_32 : decode cX4_init 32 = .ok (.newarray .int, 2) := by decide +kernel
theorem dX4_init_34 : decode cX4_init 34 = .ok (.putfield 20, 3) := by decide +kernel
theorem dX4_init_37 : decode cX4_init 37 = .ok (.aload_n 0, 1) := by decide +kernel
theorem dX4_init_38 : decode cX4_init 38 = .ok (.bipush 72, 2) := by decide +kernel
theorem dX4_init_40 : decode cX4_init 40 = .ok (.newarray .long, 2) := by decide +kernel
theorem dX4_init_42 : decode cX4_init 42 = .ok (.putfield 23, 3) := by decide +kernel
theorem dX4_init_45 : decode cX4_init 45 = .ok (.aload_n 0, 1) := by decide +kernel
theorem dX4_init_46 : decode cX4_init 46 = .ok (.sipush 1152, 3) := by decide +kernel
theorem dX4_init_49 : decode cX4_init 49 = .ok (.newarray .int, 2) := by decide +kernel
theorem dX4_init_51 : decode cX4_init 51 = .ok (.putfield 26, 3) := by decide +kernel
theorem dX4_init_54 : decode cX4_init 54 = .ok (.aload_n 0, 1) := by decide +kernel
theorem dX4_init_55 : decode cX4_init 55 = .ok (.bipush 9, 2) := by decide +kernel
theorem dX4_init_57 : decode cX4_init 57 = .ok (.newarray .int, 2) := by decide +kernel
theorem dX4_init_59 : decode cX4_init 59 = .ok (.putfield 29, 3) := by decide +kernel
theorem dX4_init_62 : decode cX4_init 62 = .ok (.aload_n 0, 1) := by decide +kernel
theorem dX4_init_63 : decode cX4_init 63 = .ok (.bipush 9, 2) := by decide +kernel
theorem dX4_init_65 : decode cX4_init 65 = .ok (.newarray .long, 2) := by decide +kernel
theorem dX4_init_67 : decode cX4_init 67 = .ok (.putfield 32, 3) := by decide +kernel
theorem dX4_init_70 : decode cX4_init 70 = .ok (.aload_n 0, 1) := by decide +kernel
theorem dX4_init_71 : decode cX4_init 71 = .ok (.iconst 4, 1) := by decide +kernel
theorem dX4_init_72 : decode cX4_init 72 = .ok (.newarray .boolean, 2) := by decide +kernel
theorem dX4_init_74 : decode cX4_init 74 = .ok (.putfield 35, 3) := by decide +kernel
theorem dX4_init_77 : decode cX4_init 77 = .ok (.aload_n 0, 1) := by decide +kernel
theorem dX4_init_78 : decode cX4_init 78 = .ok (.iconst 4, 1) := by decide +kernel
theorem dX4_init_79 : decode cX4_init 79 = .ok (.newarray .boolean, 2) := by decide +kernel
theorem dX4_init_81 : decode cX4_init 81 = .ok (.putfield 39, 3) := by decide +kernel
theorem dX4_init_84 : decode cX4_init 84 = .ok (.aload_n 0, 1) := by decide +kernel
theorem dX4_init_85 : decode cX4_init 85 = .ok (.iconst 4, 1) := by decide +kernel
theorem dX4_init_86 : decode cX4_init 86 = .ok (.newarray .boolean, 2) := by decide +kernel
theorem dX4_init_88 : decode cX4_init 88 = .ok (.putfield 42, 3) := by decide +kernel
theorem dX4_init_91 : decode cX4_init 91 = .ok (.aload_n 0, 1) := by decide +kernel
theorem dX4_init_92 : decode cX4_init 92 = .ok (.iconst 4, 1) := by decide +kernel
theorem dX4_init_93 : decode cX4_init 93 = .ok (.newarray .long, 2) := by decide +kernel
theorem dX4_init_95 : decode cX4_init 95 = .ok (.putfield 45, 3) := by decide +kernel
theorem dX4_init_98 : decode cX4_init 98 = .ok (.aload_n 0, 1) := by decide +kernel
theorem dX4_init_99 : decode cX4_init 99 = .ok (.sipush 512, 3) := by decide +kernel
theorem dX4_init_102 : decode cX4_init 102 = .ok (.newarray .int, 2) := by decide +kernel
theorem dX4_init_104 : decode cX4_init 104 = .ok (.putfield 48, 3) := by decide +kernel
theorem dX4_init_107 : decode cX4_init 107 = .ok (.aload_n 0, 1) := by decide +kernel
theorem dX4_init_108 : decode cX4_init 108 = .ok (.sipush 128, 3) := by decide +kernel
theorem dX4_init_111 : decode cX4_init 111 = .ok (.newarray .int, 2) := by decide +kernel
theorem dX4_init_113 : decode cX4_init 113 = .ok (.putfield 51, 3) := by decide +kernel
theorem dX4_init_116 : decode cX4_init 116 = .ok (.aload_n 0, 1) := by decide +kernel
theorem dX4_init_117 : decode cX4_init 117 = .ok (.bipush 64, 2) := by decide +kernel
theorem dX4_init_119 : decode cX4_init 119 = .ok (.newarray .int, 2) := by decide +kernel
theorem dX4_init_121 : decode cX4_init 121 = .ok (.putfield 54, 3) := by decide +kernel
theorem dX4_init_124 : decode cX4_init 124 = .ok (.aload_n 0, 1) := by decide +kernel
theorem dX4_init_125 : decode cX4_init 125 = .ok (.sipush 16320, 3) := by decide +kernel
theorem dX4_init_128 : decode cX4_init 128 = .ok (.newarray .int, 2) := by decide +kernel
theorem dX4_init_130 : decode cX4_init 130 = .ok (.putfield 57, 3) := by decide +kernel
theorem dX4_init_133 : decode cX4_init 133 = .ok (.aload_n 0, 1) := by decide +kernel
theorem dX4_init_134 : decode cX4_init 134 = .ok (.sipush 1800, 3) := by decide +kernel
theorem dX4_init_137 : decode cX4_init 137 = .ok (.newarray .int, 2) := by decide +kernel
theorem dX4_init_139 : decode cX4_init 139 = .ok (.putfield 60, 3) := by decide +kernel
theorem dX4_init_142 : decode cX4_init 142 = .ok (.aload_n 0, 1) := by decide +kernel
theorem dX4_init_143 : decode cX4_init 143 = .ok (.iconst 3, 1) := by decide +kernel
theorem dX4_init_144 : decode cX4_init 144 = .ok (.newarray .int, 2) := by decide +kernel
theorem dX4_init_146 : decode cX4_init 146 = .ok (.putfield 63, 3) := by decide +kernel
theorem dX4_init_149 : decode cX4_init 149 = .ok (.aload_n 0, 1) := by decide +kernel
theorem dX4_init_150 : decode cX4_init 150 = .ok (.bipush 6, 2) := by decide +kernel
theorem dX4_init_152 : decode cX4_init 152 = .ok (.newarray .long, 2) := by decide +kernel
theorem dX4_init_154 : decode cX4_init 154 = .ok (.putfield 66, 3) := by decide +kernel
theorem dX4_init_157 : decode cX4_init 157 = .ok (.aload_n 0, 1) := by decide +kernel
theorem dX4_init_158 : decode cX4_init 158 = .ok (.bipush 12, 2) := by decide +kernel
theorem dX4_init_160 : decode cX4_init 160 = .ok (.newarray .long, 2) := by decide +kernel
theorem dX4_init_162 : decode cX4_init 162 = .ok (.putfield 69, 3) := by decide +kernel
theorem dX4_init_165 : decode cX4_init 165 = .ok (.aload_n 0, 1) := by decide +kernel
theorem dX4_init_166 : decode cX4_init 166 = .ok (.bipush 18, 2) := by decide +kernel
theorem dX4_init_168 : decode cX4_init 168 = .ok (.newarray .long, 2) := by decide +kernel
theorem dX4_init_170 : decode cX4_init 170 = .ok (.putfield 72, 3) := by decide +kernel
theorem dX4_init_173 : decode cX4_init 173 = .ok (.aload_n 0, 1) := by decide +kernel
theorem dX4_init_174 : decode cX4_init 174 = .ok (.bipush 64, 2) := by decide +kernel
theorem dX4_init_176 : decode cX4_init 176 = .ok (.newarray .int, 2) := by decide +kernel
theorem dX4_init_178 : decode cX4_init 178 = .ok (.putfield 75, 3) := by decide +kernel
theorem dX4_init_181 : decode cX4_init 181 = .ok (.aload_n 0, 1) := by decide +kernel
theorem dX4_init_182 : decode cX4_init 182 = .ok (.bipush 80, 2) := by decide +kernel
theorem dX4_init_184 : decode cX4_init 184 = .ok (.newarray .long, 2) := by decide +kernel
theorem dX4_init_186 : decode cX4_init 186 = .ok (.putfield 78, 3) := by decide +kernel
theorem dX4_init_189 : decode cX4_init 189 = .ok (.aload_n 0, 1) := by decide +kernel
theorem dX4_init_190 : decode cX4_init 190 = .ok (.sipush 600, 3) := by decide +kernel
theorem dX4_init_193 : decode cX4_init 193 = .ok (.newarray .int, 2) := by decide +kernel
theorem dX4_init_195 : decode cX4_init 195 = .ok (.putfield 81, 3) := by decide +kernel
theorem dX4_init_198 : decode cX4_init 198 = .ok (.aload_n 0, 1) := by decide +kernel
theorem dX4_init_199 : decode cX4_init 199 = .ok (.bipush 64, 2) := by decide +kernel
theorem dX4_init_201 : decode cX4_init 201 = .ok (.newarray .int, 2) := by decide +kernel
theorem dX4_init_203 : decode cX4_init 203 = .ok (.putfield 84, 3) := by decide +kernel
theorem dX4_init_206 : decode cX4_init 206 = .ok (.iconst 2, 1) := by decide +kernel
theorem dX4_init_207 : decode cX4_init 207 = .ok (.istore_n 1, 1) := by decide +kernel
theorem dX4_init_208 : decode cX4_init 208 = .ok (.iconst 0, 1) := by decide +kernel
theorem dX4_init_209 : decode cX4_init 209 = .ok (.istore_n 2, 1) := by decide +kernel
theorem dX4_init_210 : decode cX4_init 210 = .ok (.iload_n 2, 1) := by decide +kernel
theorem dX4_init_211 : decode cX4_init 211 = .ok (.bipush 80, 2) := by decide +kernel
theorem dX4_init_213 : decode cX4_init 213 = .ok (.if_icmp .ge 55, 3) := by decide +kernel
theorem dX4_init_216 : decode cX4_init 216 = .ok (.iload_n 1, 1) := by decide +kernel
theorem dX4_init_217 : decode cX4_init 217 = .ok (.invokestatic 87, 3) := by decide +kernel
theorem dX4_init_220 : decode cX4_init 220 = .ok (.ifCond .ne 9, 3) := by decide +kernel
theorem dX4_init_223 : decode cX4_init 223 = .ok (.iinc 1 1, 3) := by decide +kernel
theorem dX4_init_226 : decode cX4_init 226 = .ok (.goto (-10), 3) := by decide +kernel
theorem dX4_init_229 : decode cX4_init 229 = .ok (.aload_n 0, 1) := by decide +kernel
theorem dX4_init_230 : decode cX4_init 230 = .ok (.getfield 13, 3) := by decide +kernel
theorem dX4_init_233 : decode cX4_init 233 = .ok (.iload_n 2, 1) := by decide +kernel
theorem dX4_init_234 : decode cX4_init 234 = .ok (.aload_n 0, 1) := by decide +kernel
theorem dX4_init_235 : decode cX4_init 235 = .ok (.iload_n 1, 1) := by decide +kernel
theorem dX4_init_236 : decode cX4_init 236 = .ok (.iconst 3, 1) := by decide +kernel
theorem dX4_init_237 : decode cX4_init 237 = .ok (.invokevirtual 91, 3) := by decide +kernel
theorem dX4_init_240 : decode cX4_init 240 = .ok (.lastore, 1) := by decide +kernel
theorem dX4_init_241 : decode cX4_init 241 = .ok (.iload_n 2, 1) := by decide +kernel
theorem dX4_init_242 : decode cX4_init 242 = .ok (.bipush 16, 2) := by decide +kernel
theorem dX4_init_244 : decode cX4_init 244 = .ok (.if_icmp .ge 15, 3) := by decide +kernel
theorem dX4_init_247 : decode cX4_init 247 = .ok (.aload_n 0, 1) := by decide +kernel
theorem dX4_init_248 : decode cX4_init 248 = .ok (.getfield 17, 3) := by decide +kernel
theorem dX4_init_251 : decode cX4_init 251 = .ok (.iload_n 2, 1) := by decide +kernel
theorem dX4_init_252 : decode cX4_init 252 = .ok (.aload_n 0, 1) := by decide +kernel
theorem dX4_init_253 : decode cX4_init 253 = .ok (.iload_n 1, 1) := by decide +kernel
theorem dX4_init_254 : decode cX4_init 254 = .ok (.iconst 2, 1) := by decide +kernel
theorem dX4_init_255 : decode cX4_init 255 = .ok (.invokevirtual 91, 3) := by decide +kernel
theorem dX4_init_258 : decode cX4_init 258 = .ok (.lastore, 1) := by decide +kernel
theorem dX4_init_259 : decode cX4_init 259 = .ok (.iinc 1 1, 3) := by decide +kernel
theorem dX4_init_262 : decode cX4_init 262 = .ok (.iinc 2 1, 3) := by decide +kernel
theorem dX4_init_265 : decode cX4_init 265 = .ok (.goto (-55), 3) := by decide +kernel
theorem dX4_init_268 : decode cX4_init 268 = .ok (.return_, 1) := by decide +kernel
theorem dX4_thrown_0 : decode cX4_thrown 0 = .ok (.aload_n 0, 1) := by decide +kernel
theorem dX4_thrown_1 : decode cX4_thrown 1 = .ok (.getfield 95, 3) := by decide +kernel
theorem dX4_thrown_4 : decode cX4_thrown 4 = .ok (.ireturn, 1) := by decide +kernel
theorem dX4_isPrime_0 : decode cX4_isPrime 0 = .ok (.iconst 1, 1) := by decide +kernel
theorem dX4_isPrime_1 : decode cX4_isPrime 1 = .ok (.istore_n 1, 1) := by decide +kernel
theorem dX4_isPrime_2 : decode cX4_isPrime 2 = .ok (.iconst 2, 1) := by decide +kernel
theorem dX4_isPrime_3 : decode cX4_isPrime 3 = .ok (.istore_n 2, 1) := by decide +kernel
theorem dX4_isPrime_4 : decode cX4_isPrime 4 = .ok (.iload_n 2, 1) := by decide +kernel
theorem dX4_isPrime_5 : decode cX4_isPrime 5 = .ok (.iload_n 2, 1) := by decide +kernel
theorem dX4_isPrime_6 : decode cX4_isPrime 6 = .ok (.imul, 1) := by decide +kernel
theorem dX4_isPrime_7 : decode cX4_isPrime 7 = .ok (.iload_n 0, 1) := by decide +kernel
theorem dX4_isPrime_8 : decode cX4_isPrime 8 = .ok (.if_icmp .gt 23, 3) := by decide +kernel
theorem dX4_isPrime_11 : decode cX4_isPrime 11 = .ok (.iload_n 1, 1) := by decide +kernel
theorem dX4_isPrime_12 : decode cX4_isPrime 12 = .ok (.iload_n 0, 1) := by decide +kernel
theorem dX4_isPrime_13 : decode cX4_isPrime 13 = .ok (.iload_n 2, 1) := by decide +kernel
theorem dX4_isPrime_14 : decode cX4_isPrime 14 = .ok (.irem, 1) := by decide +kernel
theorem dX4_isPrime_15 : decode cX4_isPrime 15 = .ok (.ifCond .eq 7, 3) := by decide +kernel
theorem dX4_isPrime_18 : decode cX4_isPrime 18 = .ok (.iconst 1, 1) := by decide +kernel
theorem dX4_isPrime_19 : decode cX4_isPrime 19 = .ok (.goto 4, 3) := by decide +kernel
theorem dX4_isPrime_22 : decode cX4_isPrime 22 = .ok (.iconst 0, 1) := by decide +kernel
theorem dX4_isPrime_23 : decode cX4_isPrime 23 = .ok (.iand, 1) := by decide +kernel
theorem dX4_isPrime_24 : decode cX4_isPrime 24 = .ok (.istore_n 1, 1) := by decide +kernel
theorem dX4_isPrime_25 : decode cX4_isPrime 25 = .ok (.iinc 2 1, 3) := by decide +kernel
theorem dX4_isPrime_28 : decode cX4_isPrime 28 = .ok (.goto (-24), 3) := by decide +kernel
theorem dX4_isPrime_31 : decode cX4_isPrime 31 = .ok (.iload_n 1, 1) := by decide +kernel
theorem dX4_isPrime_32 : decode cX4_isPrime 32 = .ok (.ireturn, 1) := by decide +kernel
theorem dX4_clearFigures_0 : decode cX4_clearFigures 0 = .ok (.iconst 0, 1) := by decide +kernel
theorem dX4_clearFigures_1 : decode cX4_clearFigures 1 = .ok (.istore_n 1, 1) := by decide +kernel
theorem dX4_clearFigures_2 : decode cX4_clearFigures 2 = .ok (.iload_n 1, 1) := by decide +kernel
theorem dX4_clearFigures_3 : decode cX4_clearFigures 3 = .ok (.bipush 18, 2) := by decide +kernel
theorem dX4_clearFigures_5 : decode cX4_clearFigures 5 = .ok (.if_icmp .ge 33, 3) := by decide +kernel
theorem dX4_clearFigures_8 : decode cX4_clearFigures 8 = .ok (.aload_n 0, 1) := by decide +kernel
theorem dX4_clearFigures_9 : decode cX4_clearFigures 9 = .ok (.getfield 72, 3) := by decide +kernel
theorem dX4_clearFigures_12 : decode cX4_clearFigures 12 = .ok (.iload_n 1, 1) := by decide +kernel
theorem dX4_clearFigures_13 : decode cX4_clearFigures 13 = .ok (.lconst 0, 1) := by decide +kernel
theorem dX4_clearFigures_14 : decode cX4_clearFigures 14 = .ok (.lastore, 1) := by decide +kernel
theorem dX4_clearFigures_15 : decode cX4_clearFigures 15 = .ok (.aload_n 0, 1) := by decide +kernel
theorem dX4_clearFigures_16 : decode cX4_clearFigures 16 = .ok (.getfield 69, 3) := by decide +kernel
theorem dX4_clearFigures_19 : decode cX4_clearFigures 19 = .ok (.iload_n 1, 1) := by decide +kernel
theorem dX4_clearFigures_20 : decode cX4_clearFigures 20 = .ok (.bipush 12, 2) := by decide +kernel
theorem dX4_clearFigures_22 : decode cX4_clearFigures 22 = .ok (.if_icmp .ge 7, 3) := by decide +kernel
theorem dX4_clearFigures_25 : decode cX4_clearFigures 25 = .ok (.iload_n 1, 1) := by decide +kernel
theorem dX4_clearFigures_26 : decode cX4_clearFigures 26 = .ok (.goto 4, 3) := by decide +kernel
theorem dX4_clearFigures_29 : decode cX4_clearFigures 29 = .ok (.iconst 0, 1) := by decide +kernel
theorem dX4_clearFigures_30 : decode cX4_clearFigures 30 = .ok (.lconst 0, 1) := by decide +kernel
theorem dX4_clearFigures_31 : decode cX4_clearFigures 31 = .ok (.lastore, 1) := by decide +kernel
theorem dX4_clearFigures_32 : decode cX4_clearFigures 32 = .ok (.iinc 1 1, 3) := by decide +kernel
theorem dX4_clearFigures_35 : decode cX4_clearFigures 35 = .ok (.goto (-33), 3) := by decide +kernel
theorem dX4_clearFigures_38 : decode cX4_clearFigures 38 = .ok (.return_, 1) := by decide +kernel
theorem dX4_isAtMost_0 : decode cX4_isAtMost 0 = .ok (.aload_n 0, 1) := by decide +kernel
theorem dX4_isAtMost_1 : decode cX4_isAtMost 1 = .ok (.invokevirtual 99, 3) := by decide +kernel
theorem dX4_isAtMost_4 : decode cX4_isAtMost 4 = .ok (.iconst 0, 1) := by decide +kernel
theorem dX4_isAtMost_5 : decode cX4_isAtMost 5 = .ok (.istore_n 3, 1) := by decide +kernel
theorem dX4_isAtMost_6 : decode cX4_isAtMost 6 = .ok (.iload_n 3, 1) := by decide +kernel
theorem dX4_isAtMost_7 : decode cX4_isAtMost 7 = .ok (.iconst 5, 1) := by decide +kernel
theorem dX4_isAtMost_8 : decode cX4_isAtMost 8 = .ok (.if_icmp .ge 50, 3) := by decide +kernel
theorem dX4_isAtMost_11 : decode cX4_isAtMost 11 = .ok (.iconst 0, 1) := by decide +kernel
theorem dX4_isAtMost_12 : decode cX4_isAtMost 12 = .ok (.istore 4, 2) := by decide +kernel
theorem dX4_isAtMost_14 : decode cX4_isAtMost 14 = .ok (.iload 4, 2) := by decide +kernel
theorem dX4_isAtMost_16 : decode cX4_isAtMost 16 = .ok (.iconst 5, 1) := by decide +kernel
theorem dX4_isAtMost_17 : decode cX4_isAtMost 17 = .ok (.if_icmp .ge 35, 3) := by decide +kernel
theorem dX4_isAtMost_20 : decode cX4_isAtMost 20 = .ok (.aload_n 0, 1) := by decide +kernel
theorem dX4_isAtMost_21 : decode cX4_isAtMost 21 = .ok (.getfield 69, 3) := by decide +kernel
theorem dX4_isAtMost_24 : decode cX4_isAtMost 24 = .ok (.iload_n 3, 1) := by decide +kernel
theorem dX4_isAtMost_25 : decode cX4_isAtMost 25 = .ok (.iload 4, 2) := by decide +kernel
theorem dX4_isAtMost_27 : decode cX4_isAtMost 27 = .ok (.iadd, 1) := by decide +kernel
theorem dX4_isAtMost_28 : decode cX4_isAtMost 28 = .ok (.dup2, 1) := by decide +kernel
theorem dX4_isAtMost_29 : decode cX4_isAtMost 29 = .ok (.laload, 1) := by decide +kernel
theorem dX4_isAtMost_30 : decode cX4_isAtMost 30 = .ok (.aload_n 0, 1) := by decide +kernel
theorem dX4_isAtMost_31 : decode cX4_isAtMost 31 = .ok (.getfield 66, 3) := by decide +kernel
theorem dX4_isAtMost_34 : decode cX4_isAtMost 34 = .ok (.iload_n 3, 1) := by decide +kernel
theorem dX4_isAtMost_35 : decode cX4_isAtMost 35 = .ok (.laload, 1) := by decide +kernel
theorem dX4_isAtMost_36 : decode cX4_isAtMost 36 = .ok (.aload_n 0, 1) := by decide +kernel
theorem dX4_isAtMost_37 : decode cX4_isAtMost 37 = .ok (.getfield 66, 3) := by decide +kernel
theorem dX4_isAtMost_40 : decode cX4_isAtMost 40 = .ok (.iload 4, 2) := by decide +kernel
theorem dX4_isAtMost_42 : decode cX4_isAtMost 42 = .ok (.laload, 1) := by decide +kernel
theorem dX4_isAtMost_43 : decode cX4_isAtMost 43 = .ok (.lmul, 1) := by decide +kernel
theorem dX4_isAtMost_44 : decode cX4_isAtMost 44 = .ok (.ladd, 1) := by decide +kernel
theorem dX4_isAtMost_45 : decode cX4_isAtMost 45 = .ok (.lastore, 1) := by decide +kernel
theorem dX4_isAtMost_46 : decode cX4_isAtMost 46 = .ok (.iinc 4 1, 3) := by decide +kernel
theorem dX4_isAtMost_49 : decode cX4_isAtMost 49 = .ok (.goto (-35), 3) := by decide +kernel
theorem dX4_isAtMost_52 : decode cX4_isAtMost 52 = .ok (.iinc 3 1, 3) := by decide +kernel
theorem dX4_isAtMost_55 : decode cX4_isAtMost 55 = .ok (.goto (-49), 3) := by decide +kernel
theorem dX4_isAtMost_58 : decode cX4_isAtMost 58 = .ok (.iconst 0, 1) := by decide +kernel
theorem dX4_isAtMost_59 : decode cX4_isAtMost 59 = .ok (.istore_n 3, 1) := by decide +kernel
theorem dX4_isAtMost_60 : decode cX4_isAtMost 60 = .ok (.iload_n 3, 1) := by decide +kernel
theorem dX4_isAtMost_61 : decode cX4_isAtMost 61 = .ok (.bipush 11, 2) := by decide +kernel
theorem dX4_isAtMost_63 : decode cX4_isAtMost 63 = .ok (.if_icmp .ge 41, 3) := by decide +kernel
theorem dX4_isAtMost_66 : decode cX4_isAtMost 66 = .ok (.aload_n 0, 1) := by decide +kernel
theorem dX4_isAtMost_67 : decode cX4_isAtMost 67 = .ok (.getfield 69, 3) := by decide +kernel
theorem dX4_isAtMost_70 : decode cX4_isAtMost 70 = .ok (.iload_n 3, 1) := by decide +kernel
theorem dX4_isAtMost_71 : decode cX4_isAtMost 71 = .ok (.iconst 1, 1) := by decide +kernel
theorem dX4_isAtMost_72 : decode cX4_isAtMost 72 = .ok (.iadd, 1) := by decide +kernel
theorem dX4_isAtMost_73 : decode cX4_isAtMost 73 = .ok (.dup2, 1) := by decide +kernel
theorem dX4_isAtMost_74 : decode cX4_isAtMost 74 = .ok (.laload, 1) := by decide +kernel
theorem dX4_isAtMost_75 : decode cX4_isAtMost 75 = .ok (.aload_n 0, 1) := by decide +kernel
theorem dX4_isAtMost_76 : decode cX4_isAtMost 76 = .ok (.getfield 69, 3) := by decide +kernel
theorem dX4_isAtMost_79 : decode cX4_isAtMost 79 = .ok (.iload_n 3, 1) := by decide +kernel
theorem dX4_isAtMost_80 : decode cX4_isAtMost 80 = .ok (.laload, 1) := by decide +kernel
theorem dX4_isAtMost_81 : decode cX4_isAtMost 81 = .ok (.bipush 16, 2) := by decide +kernel
theorem dX4_isAtMost_83 : decode cX4_isAtMost 83 = .ok (.lshr, 1) := by decide +kernel
theorem dX4_isAtMost_84 : decode cX4_isAtMost 84 = .ok (.ladd, 1) := by decide +kernel
theorem dX4_isAtMost_85 : decode cX4_isAtMost 85 = .ok (.lastore, 1) := by decide +kernel
theorem dX4_isAtMost_86 : decode cX4_isAtMost 86 = .ok (.aload_n 0, 1) := by decide +kernel
theorem dX4_isAtMost_87 : decode cX4_isAtMost 87 = .ok (.getfield 69, 3) := by decide +kernel
theorem dX4_isAtMost_90 : decode cX4_isAtMost 90 = .ok (.iload_n 3, 1) := by decide +kernel
theorem dX4_isAtMost_91 : decode cX4_isAtMost 91 = .ok (.dup2, 1) := by decide +kernel
theorem dX4_isAtMost_92 : decode cX4_isAtMost 92 = .ok (.laload, 1) := by decide +kernel
theorem dX4_isAtMost_93 : decode cX4_isAtMost 93 = .ok (.ldc2_w 102, 3) := by decide +kernel
theorem dX4_isAtMost_96 : decode cX4_isAtMost 96 = .ok (.land, 1) := by decide +kernel
theorem dX4_isAtMost_97 : decode cX4_isAtMost 97 = .ok (.lastore, 1) := by decide +kernel
theorem dX4_isAtMost_98 : decode cX4_isAtMost 98 = .ok (.iinc 3 1, 3) := by decide +kernel
theorem dX4_isAtMost_101 : decode cX4_isAtMost 101 = .ok (.goto (-41), 3) := by decide +kernel
theorem dX4_isAtMost_104 : decode cX4_isAtMost 104 = .ok (.iload_n 2, 1) := by decide +kernel
theorem dX4_isAtMost_105 : decode cX4_isAtMost 105 = .ok (.iconst 2, 1) := by decide +kernel
theorem dX4_isAtMost_106 : decode cX4_isAtMost 106 = .ok (.if_icmp .ne 69, 3) := by decide +kernel
theorem dX4_isAtMost_109 : decode cX4_isAtMost 109 = .ok (.aload_n 0, 1) := by decide +kernel
theorem dX4_isAtMost_110 : decode cX4_isAtMost 110 = .ok (.getfield 69, 3) := by decide +kernel
theorem dX4_isAtMost_113 : decode cX4_isAtMost 113 = .ok (.bipush 9, 2) := by decide +kernel
theorem dX4_isAtMost_115 : decode cX4_isAtMost 115 = .ok (.laload, 1) := by decide +kernel
theorem dX4_isAtMost_116 : decode cX4_isAtMost 116 = .ok (.lconst 0, 1) := by decide +kernel
theorem dX4_isAtMost_117 : decode cX4_isAtMost 117 = .ok (.lcmp, 1) := by decide +kernel
theorem dX4_isAtMost_118 : decode cX4_isAtMost 118 = .ok (.ifCond .ne 40, 3) := by decide +kernel
theorem dX4_isAtMost_121 : decode cX4_isAtMost 121 = .ok (.aload_n 0, 1) := by decide +kernel
theorem dX4_isAtMost_122 : decode cX4_isAtMost 122 = .ok (.getfield 69, 3) := by decide +kernel
theorem dX4_isAtMost_125 : decode cX4_isAtMost 125 = .ok (.bipush 10, 2) := by decide +kernel
theorem dX4_isAtMost_127 : decode cX4_isAtMost 127 = .ok (.laload, 1) := by decide +kernel
theorem dX4_isAtMost_128 : decode cX4_isAtMost 128 = .ok (.lconst 0, 1) := by decide +kernel
theorem dX4_isAtMost_129 : decode cX4_isAtMost 129 = .ok (.lcmp, 1) := by decide +kernel
theorem dX4_isAtMost_130 : decode cX4_isAtMost 130 = .ok (.ifCond .ne 28, 3) := by decide +kernel
theorem dX4_isAtMost_133 : decode cX4_isAtMost 133 = .ok (.aload_n 0, 1) := by decide +kernel
theorem dX4_isAtMost_134 : decode cX4_isAtMost 134 = .ok (.getfield 69, 3) := by decide +kernel
theorem dX4_isAtMost_137 : decode cX4_isAtMost 137 = .ok (.bipush 11, 2) := by decide +kernel
theorem dX4_isAtMost_139 : decode cX4_isAtMost 139 = .ok (.laload, 1) := by decide +kernel
theorem dX4_isAtMost_140 : decode cX4_isAtMost 140 = .ok (.lconst 0, 1) := by decide +kernel
theorem dX4_isAtMost_141 : decode cX4_isAtMost 141 = .ok (.lcmp, 1) := by decide +kernel
theorem dX4_isAtMost_142 : decode cX4_isAtMost 142 = .ok (.ifCond .ne 16, 3) := by decide +kernel
theorem dX4_isAtMost_145 : decode cX4_isAtMost 145 = .ok (.aload_n 0, 1) := by decide +kernel
theorem dX4_isAtMost_146 : decode cX4_isAtMost 146 = .ok (.getfield 69, 3) := by decide +kernel
theorem dX4_isAtMost_149 : decode cX4_isAtMost 149 = .ok (.bipush 8, 2) := by decide +kernel
theorem dX4_isAtMost_151 : decode cX4_isAtMost 151 = .ok (.laload, 1) := by decide +kernel
theorem dX4_isAtMost_152 : decode cX4_isAtMost 152 = .ok (.iload_n 1, 1) := by decide +kernel
theorem dX4_isAtMost_153 : decode cX4_isAtMost 153 = .ok (.i2l, 1) := by decide +kernel
theorem dX4_isAtMost_154 : decode cX4_isAtMost 154 = .ok (.lcmp, 1) := by decide +kernel
theorem dX4_isAtMost_155 : decode cX4_isAtMost 155 = .ok (.ifCond .lt 14, 3) := by decide +kernel
theorem dX4_isAtMost_158 : decode cX4_isAtMost 158 = .ok (.aload_n 0, 1) := by decide +kernel
theorem dX4_isAtMost_159 : decode cX4_isAtMost 159 = .ok (.iload_n 1, 1) := by decide +kernel
theorem dX4_isAtMost_160 : decode cX4_isAtMost 160 = .ok (.bipush 8, 2) := by decide +kernel
theorem dX4_isAtMost_162 : decode cX4_isAtMost 162 = .ok (.iconst 2, 1) := by decide +kernel
theorem dX4_isAtMost_163 : decode cX4_isAtMost 163 = .ok (.invokevirtual 104, 3) := by decide +kernel
theorem dX4_isAtMost_166 : decode cX4_isAtMost 166 = .ok (.ifCond .eq 7, 3) := by decide +kernel
theorem dX4_isAtMost_169 : decode cX4_isAtMost 169 = .ok (.iconst 1, 1) := by decide +kernel
theorem dX4_isAtMost_170 : decode cX4_isAtMost 170 = .ok (.goto 4, 3) := by decide +kernel
theorem dX4_isAtMost_173 : decode cX4_isAtMost 173 = .ok (.iconst 0, 1) := by decide +kernel
theorem dX4_isAtMost_174 : decode cX4_isAtMost 174 = .ok (.ireturn, 1) := by decide +kernel
theorem dX4_isAtMost_175 : decode cX4_isAtMost 175 = .ok (.iconst 0, 1) := by decide +kernel
theorem dX4_isAtMost_176 : decode cX4_isAtMost 176 = .ok (.istore_n 3, 1) := by decide +kernel
theorem dX4_isAtMost_177 : decode cX4_isAtMost 177 = .ok (.iload_n 3, 1) := by decide +kernel
theorem dX4_isAtMost_178 : decode cX4_isAtMost 178 = .ok (.bipush 12, 2) := by decide +kernel
theorem dX4_isAtMost_180 : decode cX4_isAtMost 180 = .ok (.if_icmp .ge 50, 3) := by decide +kernel
theorem dX4_isAtMost_183 : decode cX4_isAtMost 183 = .ok (.iconst 0, 1) := by decide +kernel
theorem dX4_isAtMost_184 : decode cX4_isAtMost 184 = .ok (.istore 4, 2) := by decide +kernel
theorem dX4_isAtMost_186 : decode cX4_isAtMost 186 = .ok (.iload 4, 2) := by decide +kernel
theorem dX4_isAtMost_188 : decode cX4_isAtMost 188 = .ok (.iconst 5, 1) := by decide +kernel
theorem dX4_isAtMost_189 : decode cX4_isAtMost 189 = .ok (.if_icmp .ge 35, 3) := by decide +kernel
theorem dX4_isAtMost_192 : decode cX4_isAtMost 192 = .ok (.aload_n 0, 1) := by decide +kernel
theorem dX4_isAtMost_193 : decode cX4_isAtMost 193 = .ok (.getfield 72, 3) := by decide +kernel
theorem dX4_isAtMost_196 : decode cX4_isAtMost 196 = .ok (.iload_n 3, 1) := by decide +kernel
theorem dX4_isAtMost_197 : decode cX4_isAtMost 197 = .ok (.iload 4, 2) := by decide +kernel
theorem dX4_isAtMost_199 : decode cX4_isAtMost 199 = .ok (.iadd, 1) := by decide +kernel
theorem dX4_isAtMost_200 : decode cX4_isAtMost 200 = .ok (.dup2, 1) := by decide +kernel
theorem dX4_isAtMost_201 : decode cX4_isAtMost 201 = .ok (.laload, 1) := by decide +kernel
theorem dX4_isAtMost_202 : decode cX4_isAtMost 202 = .ok (.aload_n 0, 1) := by decide +kernel
theorem dX4_isAtMost_203 : decode cX4_isAtMost 203 = .ok (.getfield 69, 3) := by decide +kernel
theorem dX4_isAtMost_206 : decode cX4_isAtMost 206 = .ok (.iload_n 3, 1) := by decide +kernel
theorem dX4_isAtMost_207 : decode cX4_isAtMost 207 = .ok (.laload, 1) := by decide +kernel
theorem dX4_isAtMost_208 : decode cX4_isAtMost 208 = .ok (.aload_n 0, 1) := by decide +kernel
theorem dX4_isAtMost_209 : decode cX4_isAtMost 209 = .ok (.getfield 66, 3) := by decide +kernel
theorem dX4_isAtMost_212 : decode cX4_isAtMost 212 = .ok (.iload 4, 2) := by decide +kernel
theorem dX4_isAtMost_214 : decode cX4_isAtMost 214 = .ok (.laload, 1) := by decide +kernel
theorem dX4_isAtMost_215 : decode cX4_isAtMost 215 = .ok (.lmul, 1) := by decide +kernel
theorem dX4_isAtMost_216 : decode cX4_isAtMost 216 = .ok (.ladd, 1) := by decide +kernel
theorem dX4_isAtMost_217 : decode cX4_isAtMost 217 = .ok (.lastore, 1) := by decide +kernel
theorem dX4_isAtMost_218 : decode cX4_isAtMost 218 = .ok (.iinc 4 1, 3) := by decide +kernel
theorem dX4_isAtMost_221 : decode cX4_isAtMost 221 = .ok (.goto (-35), 3) := by decide +kernel
theorem dX4_isAtMost_224 : decode cX4_isAtMost 224 = .ok (.iinc 3 1, 3) := by decide +kernel
theorem dX4_isAtMost_227 : decode cX4_isAtMost 227 = .ok (.goto (-50), 3) := by decide +kernel
theorem dX4_isAtMost_230 : decode cX4_isAtMost 230 = .ok (.iconst 0, 1) := by decide +kernel
theorem dX4_isAtMost_231 : decode cX4_isAtMost 231 = .ok (.istore_n 3, 1) := by decide +kernel
theorem dX4_isAtMost_232 : decode cX4_isAtMost 232 = .ok (.iload_n 3, 1) := by decide +kernel
theorem dX4_isAtMost_233 : decode cX4_isAtMost 233 = .ok (.bipush 17, 2) := by decide +kernel
theorem dX4_isAtMost_235 : decode cX4_isAtMost 235 = .ok (.if_icmp .ge 41, 3) := by decide +kernel
theorem dX4_isAtMost_238 : decode cX4_isAtMost 238 = .ok (.aload_n 0, 1) := by decide +kernel
theorem dX4_isAtMost_239 : decode cX4_isAtMost 239 = .ok (.getfield 72, 3) := by decide +kernel
theorem dX4_isAtMost_242 : decode cX4_isAtMost 242 = .ok (.iload_n 3, 1) := by decide +kernel
theorem dX4_isAtMost_243 : decode cX4_isAtMost 243 = .ok (.iconst 1, 1) := by decide +kernel
theorem dX4_isAtMost_244 : decode cX4_isAtMost 244 = .ok (.iadd, 1) := by decide +kernel
theorem dX4_isAtMost_245 : decode cX4_isAtMost 245 = .ok (.dup2, 1) := by decide +kernel
theorem dX4_isAtMost_246 : decode cX4_isAtMost 246 = .ok (.laload, 1) := by decide +kernel
theorem dX4_isAtMost_247 : decode cX4_isAtMost 247 = .ok (.aload_n 0, 1) := by decide +kernel
theorem dX4_isAtMost_248 : decode cX4_isAtMost 248 = .ok (.getfield 72, 3) := by decide +kernel
theorem dX4_isAtMost_251 : decode cX4_isAtMost 251 = .ok (.iload_n 3, 1) := by decide +kernel
theorem dX4_isAtMost_252 : decode cX4_isAtMost 252 = .ok (.laload, 1) := by decide +kernel
theorem dX4_isAtMost_253 : decode cX4_isAtMost 253 = .ok (.bipush 16, 2) := by decide +kernel
theorem dX4_isAtMost_255 : decode cX4_isAtMost 255 = .ok (.lshr, 1) := by decide +kernel
theorem dX4_isAtMost_256 : decode cX4_isAtMost 256 = .ok (.ladd, 1) := by decide +kernel
theorem dX4_isAtMost_257 : decode cX4_isAtMost 257 = .ok (.lastore, 1) := by decide +kernel
theorem dX4_isAtMost_258 : decode cX4_isAtMost 258 = .ok (.aload_n 0, 1) := by decide +kernel
theorem dX4_isAtMost_259 : decode cX4_isAtMost 259 = .ok (.getfield 72, 3) := by decide +kernel
theorem dX4_isAtMost_262 : decode cX4_isAtMost 262 = .ok (.iload_n 3, 1) := by decide +kernel
theorem dX4_isAtMost_263 : decode cX4_isAtMost 263 = .ok (.dup2, 1) := by decide +kernel
theorem dX4_isAtMost_264 : decode cX4_isAtMost 264 = .ok (.laload, 1) := by decide +kernel
theorem dX4_isAtMost_265 : decode cX4_isAtMost 265 = .ok (.ldc2_w 102, 3) := by decide +kernel
theorem dX4_isAtMost_268 : decode cX4_isAtMost 268 = .ok (.land, 1) := by decide +kernel
theorem dX4_isAtMost_269 : decode cX4_isAtMost 269 = .ok (.lastore, 1) := by decide +kernel
theorem dX4_isAtMost_270 : decode cX4_isAtMost 270 = .ok (.iinc 3 1, 3) := by decide +kernel
theorem dX4_isAtMost_273 : decode cX4_isAtMost 273 = .ok (.goto (-41), 3) := by decide +kernel
theorem dX4_isAtMost_276 : decode cX4_isAtMost 276 = .ok (.iconst 1, 1) := by decide +kernel
theorem dX4_isAtMost_277 : decode cX4_isAtMost 277 = .ok (.istore_n 3, 1) := by decide +kernel
theorem dX4_isAtMost_278 : decode cX4_isAtMost 278 = .ok (.bipush 13, 2) := by decide +kernel
theorem dX4_isAtMost_280 : decode cX4_isAtMost 280 = .ok (.istore 4, 2) := by decide +kernel
theorem dX4_isAtMost_282 : decode cX4_isAtMost 282 = .ok (.iload 4, 2) := by decide +kernel
theorem dX4_isAtMost_284 : decode cX4_isAtMost 284 = .ok (.bipush 18, 2) := by decide +kernel
theorem dX4_isAtMost_286 : decode cX4_isAtMost 286 = .ok (.if_icmp .ge 29, 3) := by decide +kernel
theorem dX4_isAtMost_289 : decode cX4_isAtMost 289 = .ok (.iload_n 3, 1) := by decide +kernel
theorem dX4_isAtMost_290 : decode cX4_isAtMost 290 = .ok (.aload_n 0, 1) := by decide +kernel
theorem dX4_isAtMost_291 : decode cX4_isAtMost 291 = .ok (.getfield 72, 3) := by decide +kernel
theorem dX4_isAtMost_294 : decode cX4_isAtMost 294 = .ok (.iload 4, 2) := by decide +kernel
theorem dX4_isAtMost_296 : decode cX4_isAtMost 296 = .ok (.laload, 1) := by decide +kernel
theorem dX4_isAtMost_297 : decode cX4_isAtMost 297 = .ok (.lconst 0, 1) := by decide +kernel
theorem dX4_isAtMost_298 : decode cX4_isAtMost 298 = .ok (.lcmp, 1) := by decide +kernel
theorem dX4_isAtMost_299 : decode cX4_isAtMost 299 = .ok (.ifCond .ne 7, 3) := by decide +kernel
theorem dX4_isAtMost_302 : decode cX4_isAtMost 302 = .ok (.iconst 1, 1) := by decide +kernel
theorem dX4_isAtMost_303 : decode cX4_isAtMost 303 = .ok (.goto 4, 3) := by decide +kernel
theorem dX4_isAtMost_306 : decode cX4_isAtMost 306 = .ok (.iconst 0, 1) := by decide +kernel
theorem dX4_isAtMost_307 : decode cX4_isAtMost 307 = .ok (.iand, 1) := by decide +kernel
theorem dX4_isAtMost_308 : decode cX4_isAtMost 308 = .ok (.istore_n 3, 1) := by decide +kernel
theorem dX4_isAtMost_309 : decode cX4_isAtMost 309 = .ok (.iinc 4 1, 3) := by decide +kernel
theorem dX4_isAtMost_312 : decode cX4_isAtMost 312 = .ok (.goto (-30), 3) := by decide +kernel
theorem dX4_isAtMost_315 : decode cX4_isAtMost 315 = .ok (.iload_n 3, 1) := by decide +kernel
theorem dX4_isAtMost_316 : decode cX4_isAtMost 316 = .ok (.ifCond .eq 20, 3) := by decide +kernel
theorem dX4_isAtMost_319 : decode cX4_isAtMost 319 = .ok (.aload_n 0, 1) := by decide +kernel
theorem dX4_isAtMost_320 : decode cX4_isAtMost 320 = .ok (.getfield 72, 3) := by decide +kernel
theorem dX4_isAtMost_323 : decode cX4_isAtMost 323 = .ok (.bipush 12, 2) := by decide +kernel
theorem dX4_isAtMost_325 : decode cX4_isAtMost 325 = .ok (.laload, 1) := by decide +kernel
theorem dX4_isAtMost_326 : decode cX4_isAtMost 326 = .ok (.iload_n 1, 1) := by decide +kernel
theorem dX4_isAtMost_327 : decode cX4_isAtMost 327 = .ok (.i2l, 1) := by decide +kernel
theorem dX4_isAtMost_328 : decode cX4_isAtMost 328 = .ok (.lcmp, 1) := by decide +kernel
theorem dX4_isAtMost_329 : decode cX4_isAtMost 329 = .ok (.ifCond .ge 7, 3) := by decide +kernel
theorem dX4_isAtMost_332 : decode cX4_isAtMost 332 = .ok (.iconst 1, 1) := by decide +kernel
theorem dX4_isAtMost_333 : decode cX4_isAtMost 333 = .ok (.goto 4, 3) := by decide +kernel
theorem dX4_isAtMost_336 : decode cX4_isAtMost 336 = .ok (.iconst 0, 1) := by decide +kernel
theorem dX4_isAtMost_337 : decode cX4_isAtMost 337 = .ok (.ireturn, 1) := by decide +kernel
theorem dX4_isJust_0 : decode cX4_isJust 0 = .ok (.iload_n 3, 1) := by decide +kernel
theorem dX4_isJust_1 : decode cX4_isJust 1 = .ok (.iconst 2, 1) := by decide +kernel
theorem dX4_isJust_2 : decode cX4_isJust 2 = .ok (.if_icmp .ne 19, 3) := by decide +kernel
theorem dX4_isJust_5 : decode cX4_isJust 5 = .ok (.aload_n 0, 1) := by decide +kernel
theorem dX4_isJust_6 : decode cX4_isJust 6 = .ok (.getfield 69, 3) := by decide +kernel
theorem dX4_isJust_9 : decode cX4_isJust 9 = .ok (.iload_n 2, 1) := by decide +kernel
theorem dX4_isJust_10 : decode cX4_isJust 10 = .ok (.laload, 1) := by decide +kernel
theorem dX4_isJust_11 : decode cX4_isJust 11 = .ok (.iload_n 1, 1) := by decide +kernel
theorem dX4_isJust_12 : decode cX4_isJust 12 = .ok (.i2l, 1) := by decide +kernel
theorem dX4_isJust_13 : decode cX4_isJust 13 = .ok (.lcmp, 1) := by decide +kernel
theorem dX4_isJust_14 : decode cX4_isJust 14 = .ok (.ifCond .ne 7, 3) := by decide +kernel
theorem dX4_isJust_17 : decode cX4_isJust 17 = .ok (.iconst 1, 1) := by decide +kernel
theorem dX4_isJust_18 : decode cX4_isJust 18 = .ok (.goto 4, 3) := by decide +kernel
theorem dX4_isJust_21 : decode cX4_isJust 21 = .ok (.iconst 0, 1) := by decide +kernel
theorem dX4_isJust_22 : decode cX4_isJust 22 = .ok (.istore 4, 2) := by decide +kernel
theorem dX4_isJust_24 : decode cX4_isJust 24 = .ok (.iconst 0, 1) := by decide +kernel
theorem dX4_isJust_25 : decode cX4_isJust 25 = .ok (.istore 5, 2) := by decide +kernel
theorem dX4_isJust_27 : decode cX4_isJust 27 = .ok (.iload 5, 2) := by decide +kernel
theorem dX4_isJust_29 : decode cX4_isJust 29 = .ok (.bipush 12, 2) := by decide +kernel
theorem dX4_isJust_31 : decode cX4_isJust 31 = .ok (.if_icmp .ge 37, 3) := by decide +kernel
theorem dX4_isJust_34 : decode cX4_isJust 34 = .ok (.iload 4, 2) := by decide +kernel
theorem dX4_isJust_36 : decode cX4_isJust 36 = .ok (.iload 5, 2) := by decide +kernel
theorem dX4_isJust_38 : decode cX4_isJust 38 = .ok (.iload_n 2, 1) := by decide +kernel
theorem dX4_isJust_39 : decode cX4_isJust 39 = .ok (.if_icmp .eq 15, 3) := by decide +kernel
theorem dX4_isJust_42 : decode cX4_isJust 42 = .ok (.aload_n 0, 1) := by decide +kernel
theorem dX4_isJust_43 : decode cX4_isJust 43 = .ok (.getfield 69, 3) := by decide +kernel
theorem dX4_isJust_46 : decode cX4_isJust 46 = .ok (.iload 5, 2) := by decide +kernel
theorem dX4_isJust_48 : decode cX4_isJust 48 = .ok (.laload, 1) := by decide +kernel
theorem dX4_isJust_49 : decode cX4_isJust 49 = .ok (.lconst 0, 1) := by decide +kernel
theorem dX4_isJust_50 : decode cX4_isJust 50 = .ok (.lcmp, 1) := by decide +kernel
theorem dX4_isJust_51 : decode cX4_isJust 51 = .ok (.ifCond .ne 7, 3) := by decide +kernel
theorem dX4_isJust_54 : decode cX4_isJust 54 = .ok (.iconst 1, 1) := by decide +kernel
theorem dX4_isJust_55 : decode cX4_isJust 55 = .ok (.goto 4, 3) := by decide +kernel
theorem dX4_isJust_58 : decode cX4_isJust 58 = .ok (.iconst 0, 1) := by decide +kernel
theorem dX4_isJust_59 : decode cX4_isJust 59 = .ok (.iand, 1) := by decide +kernel
theorem dX4_isJust_60 : decode cX4_isJust 60 = .ok (.istore 4, 2) := by decide +kernel
theorem dX4_isJust_62 : decode cX4_isJust 62 = .ok (.iinc 5 1, 3) := by decide +kernel
theorem dX4_isJust_65 : decode cX4_isJust 65 = .ok (.goto (-38), 3) := by decide +kernel
theorem dX4_isJust_68 : decode cX4_isJust 68 = .ok (.iload 4, 2) := by decide +kernel
theorem dX4_isJust_70 : decode cX4_isJust 70 = .ok (.ireturn, 1) := by decide +kernel
theorem dX4_root_0 : decode cX4_root 0 = .ok (.iconst 0, 1) := by decide +kernel
theorem dX4_root_1 : decode cX4_root 1 = .ok (.istore_n 3, 1) := by decide +kernel
theorem dX4_root_2 : decode cX4_root 2 = .ok (.iload_n 3, 1) := by decide +kernel
theorem dX4_root_3 : decode cX4_root 3 = .ok (.bipush 6, 2) := by decide +kernel
theorem dX4_root_5 : decode cX4_root 5 = .ok (.if_icmp .ge 16, 3) := by decide +kernel
theorem dX4_root_8 : decode cX4_root 8 = .ok (.aload_n 0, 1) := by decide +kernel
theorem dX4_root_9 : decode cX4_root 9 = .ok (.getfield 66, 3) := by decide +kernel
theorem dX4_root_12 : decode cX4_root 12 = .ok (.iload_n 3, 1) := by decide +kernel
theorem dX4_root_13 : decode cX4_root 13 = .ok (.lconst 0, 1) := by decide +kernel
theorem dX4_root_14 : decode cX4_root 14 = .ok (.lastore, 1) := by decide +kernel
theorem dX4_root_15 : decode cX4_root 15 = .ok (.iinc 3 1, 3) := by decide +kernel
theorem dX4_root_18 : decode cX4_root 18 = .ok (.goto (-16), 3) := by decide +kernel
theorem dX4_root_21 : decode cX4_root 21 = .ok (.lconst 0, 1) := by decide +kernel
theorem dX4_root_22 : decode cX4_root 22 = .ok (.lstore_n 3, 1) := by decide +kernel
theorem dX4_root_23 : decode cX4_root 23 = .ok (.iload_n 2, 1) := by decide +kernel
theorem dX4_root_24 : decode cX4_root 24 = .ok (.iconst 2, 1) := by decide +kernel
theorem dX4_root_25 : decode cX4_root 25 = .ok (.if_icmp .ne 19, 3) := by decide +kernel
theorem dX4_root_28 : decode cX4_root 28 = .ok (.lload_n 3, 1) := by decide +kernel
theorem dX4_root_29 : decode cX4_root 29 = .ok (.lconst 1, 1) := by decide +kernel
theorem dX4_root_30 : decode cX4_root 30 = .ok (.ladd, 1) := by decide +kernel
theorem dX4_root_31 : decode cX4_root 31 = .ok (.lload_n 3, 1) := by decide +kernel
theorem dX4_root_32 : decode cX4_root 32 = .ok (.lconst 1, 1) := by decide +kernel
theorem dX4_root_33 : decode cX4_root 33 = .ok (.ladd, 1) := by decide +kernel
theorem dX4_root_34 : decode cX4_root 34 = .ok (.lmul, 1) := by decide +kernel
theorem dX4_root_35 : decode cX4_root 35 = .ok (.iload_n 1, 1) := by decide +kernel
theorem dX4_root_36 : decode cX4_root 36 = .ok (.i2l, 1) := by decide +kernel
theorem dX4_root_37 : decode cX4_root 37 = .ok (.lcmp, 1) := by decide +kernel
theorem dX4_root_38 : decode cX4_root 38 = .ok (.ifCond .gt 30, 3) := by decide +kernel
theorem dX4_root_41 : decode cX4_root 41 = .ok (.goto 20, 3) := by decide +kernel
theorem dX4_root_44 : decode cX4_root 44 = .ok (.lload_n 3, 1) := by decide +kernel
theorem dX4_root_45 : decode cX4_root 45 = .ok (.lconst 1, 1) := by decide +kernel
theorem dX4_root_46 : decode cX4_root 46 = .ok (.ladd, 1) := by decide +kernel
theorem dX4_root_47 : decode cX4_root 47 = .ok (.lload_n 3, 1) := by decide +kernel
theorem dX4_root_48 : decode cX4_root 48 = .ok (.lconst 1, 1) := by decide +kernel
theorem dX4_root_49 : decode cX4_root 49 = .ok (.ladd, 1) := by decide +kernel
theorem dX4_root_50 : decode cX4_root 50 = .ok (.lmul, 1) := by decide +kernel
theorem dX4_root_51 : decode cX4_root 51 = .ok (.lload_n 3, 1) := by decide +kernel
theorem dX4_root_52 : decode cX4_root 52 = .ok (.lconst 1, 1) := by decide +kernel
theorem dX4_root_53 : decode cX4_root 53 = .ok (.ladd, 1) := by decide +kernel
theorem dX4_root_54 : decode cX4_root 54 = .ok (.lmul, 1) := by decide +kernel
theorem dX4_root_55 : decode cX4_root 55 = .ok (.iload_n 1, 1) := by decide +kernel
theorem dX4_root_56 : decode cX4_root 56 = .ok (.i2l, 1) := by decide +kernel
theorem dX4_root_57 : decode cX4_root 57 = .ok (.lcmp, 1) := by decide +kernel
theorem dX4_root_58 : decode cX4_root 58 = .ok (.ifCond .gt 10, 3) := by decide +kernel
theorem dX4_root_61 : decode cX4_root 61 = .ok (.lload_n 3, 1) := by decide +kernel
theorem dX4_root_62 : decode cX4_root 62 = .ok (.lconst 1, 1) := by decide +kernel
theorem dX4_root_63 : decode cX4_root 63 = .ok (.ladd, 1) := by decide +kernel
theorem dX4_root_64 : decode cX4_root 64 = .ok (.lstore_n 3, 1) := by decide +kernel
theorem dX4_root_65 : decode cX4_root 65 = .ok (.goto (-42), 3) := by decide +kernel
theorem dX4_root_68 : decode cX4_root 68 = .ok (.aload_n 0, 1) := by decide +kernel
theorem dX4_root_69 : decode cX4_root 69 = .ok (.getfield 66, 3) := by decide +kernel
theorem dX4_root_72 : decode cX4_root 72 = .ok (.iconst 4, 1) := by decide +kernel
theorem dX4_root_73 : decode cX4_root 73 = .ok (.lload_n 3, 1) := by decide +kernel
theorem dX4_root_74 : decode cX4_root 74 = .ok (.lastore, 1) := by decide +kernel
theorem dX4_root_75 : decode cX4_root 75 = .ok (.bipush 63, 2) := by decide +kernel
theorem dX4_root_77 : decode cX4_root 77 = .ok (.istore 5, 2) := by decide +kernel
theorem dX4_root_79 : decode cX4_root 79 = .ok (.iload 5, 2) := by decide +kernel
theorem dX4_root_81 : decode cX4_root 81 = .ok (.ifCond .lt 58, 3) := by decide +kernel
theorem dX4_root_84 : decode cX4_root 84 = .ok (.aload_n 0, 1) := by decide +kernel
theorem dX4_root_85 : decode cX4_root 85 = .ok (.getfield 66, 3) := by decide +kernel
theorem dX4_root_88 : decode cX4_root 88 = .ok (.iload 5, 2) := by decide +kernel
theorem dX4_root_90 : decode cX4_root 90 = .ok (.bipush 16, 2) := by decide +kernel
theorem dX4_root_92 : decode cX4_root 92 = .ok (.idiv, 1) := by decide +kernel
theorem dX4_root_93 : decode cX4_root 93 = .ok (.dup2, 1) := by decide +kernel
theorem dX4_root_94 : decode cX4_root 94 = .ok (.laload, 1) := by decide +kernel
theorem dX4_root_95 : decode cX4_root 95 = .ok (.lconst 1, 1) := by decide +kernel
theorem dX4_root_96 : decode cX4_root 96 = .ok (.iload 5, 2) := by decide +kernel
theorem dX4_root_98 : decode cX4_root 98 = .ok (.bipush 16, 2) := by decide +kernel
theorem dX4_root_100 : decode cX4_root 100 = .ok (.irem, 1) := by decide +kernel
theorem dX4_root_101 : decode cX4_root 101 = .ok (.lshl, 1) := by decide +kernel
theorem dX4_root_102 : decode cX4_root 102 = .ok (.ladd, 1) := by decide +kernel
theorem dX4_root_103 : decode cX4_root 103 = .ok (.lastore, 1) := by decide +kernel
theorem dX4_root_104 : decode cX4_root 104 = .ok (.aload_n 0, 1) := by decide +kernel
theorem dX4_root_105 : decode cX4_root 105 = .ok (.iload_n 1, 1) := by decide +kernel
theorem dX4_root_106 : decode cX4_root 106 = .ok (.iload_n 2, 1) := by decide +kernel
theorem dX4_root_107 : decode cX4_root 107 = .ok (.invokevirtual 108, 3) := by decide +kernel
theorem dX4_root_110 : decode cX4_root 110 = .ok (.ifCond .ne 23, 3) := by decide +kernel
theorem dX4_root_113 : decode cX4_root 113 = .ok (.aload_n 0, 1) := by decide +kernel
theorem dX4_root_114 : decode cX4_root 114 = .ok (.getfield 66, 3) := by decide +kernel
theorem dX4_root_117 : decode cX4_root 117 = .ok (.iload 5, 2) := by decide +kernel
theorem dX4_root_119 : decode cX4_root 119 = .ok (.bipush 16, 2) := by decide +kernel
theorem dX4_root_121 : decode cX4_root 121 = .ok (.idiv, 1) := by decide +kernel
theorem dX4_root_122 : decode cX4_root 122 = .ok (.dup2, 1) := by decide +kernel
theorem dX4_root_123 : decode cX4_root 123 = .ok (.laload, 1) := by decide +kernel
theorem dX4_root_124 : decode cX4_root 124 = .ok (.lconst 1, 1) := by decide +kernel
theorem dX4_root_125 : decode cX4_root 125 = .ok (.iload 5, 2) := by decide +kernel
theorem dX4_root_127 : decode cX4_root 127 = .ok (.bipush 16, 2) := by decide +kernel
theorem dX4_root_129 : decode cX4_root 129 = .ok (.irem, 1) := by decide +kernel
theorem dX4_root_130 : decode cX4_root 130 = .ok (.lshl, 1) := by decide +kernel
theorem dX4_root_131 : decode cX4_root 131 = .ok (.lsub, 1) := by decide +kernel
theorem dX4_root_132 : decode cX4_root 132 = .ok (.lastore, 1) := by decide +kernel
theorem dX4_root_133 : decode cX4_root 133 = .ok (.iinc 5 (-1), 3) := by decide +kernel
theorem dX4_root_136 : decode cX4_root 136 = .ok (.goto (-57), 3) := by decide +kernel
theorem dX4_root_139 : decode cX4_root 139 = .ok (.aload_n 0, 1) := by decide +kernel
theorem dX4_root_140 : decode cX4_root 140 = .ok (.getfield 66, 3) := by decide +kernel
theorem dX4_root_143 : decode cX4_root 143 = .ok (.iconst 3, 1) := by decide +kernel
theorem dX4_root_144 : decode cX4_root 144 = .ok (.laload, 1) := by decide +kernel
theorem dX4_root_145 : decode cX4_root 145 = .ok (.bipush 48, 2) := by decide +kernel
theorem dX4_root_147 : decode cX4_root 147 = .ok (.lshl, 1) := by decide +kernel
theorem dX4_root_148 : decode cX4_root 148 = .ok (.aload_n 0, 1) := by decide +kernel
theorem dX4_root_149 : decode cX4_root 149 = .ok (.getfield 66, 3) := by decide +kernel
theorem dX4_root_152 : decode cX4_root 152 = .ok (.iconst 2, 1) := by decide +kernel
theorem dX4_root_153 : decode cX4_root 153 = .ok (.laload, 1) := by decide +kernel
theorem dX4_root_154 : decode cX4_root 154 = .ok (.bipush 32, 2) := by decide +kernel
theorem dX4_root_156 : decode cX4_root 156 = .ok (.lshl, 1) := by decide +kernel
theorem dX4_root_157 : decode cX4_root 157 = .ok (.lor, 1) := by decide +kernel
theorem dX4_root_158 : decode cX4_root 158 = .ok (.aload_n 0, 1) := by decide +kernel
theorem dX4_root_159 : decode cX4_root 159 = .ok (.getfield 66, 3) := by decide +kernel
theorem dX4_root_162 : decode cX4_root 162 = .ok (.iconst 1, 1) := by decide +kernel
theorem dX4_root_163 : decode cX4_root 163 = .ok (.laload, 1) := by decide +kernel
theorem dX4_root_164 : decode cX4_root 164 = .ok (.bipush 16, 2) := by decide +kernel
theorem dX4_root_166 : decode cX4_root 166 = .ok (.lshl, 1) := by decide +kernel
theorem dX4_root_167 : decode cX4_root 167 = .ok (.lor, 1) := by decide +kernel
theorem dX4_root_168 : decode cX4_root 168 = .ok (.aload_n 0, 1) := by decide +kernel
theorem dX4_root_169 : decode cX4_root 169 = .ok (.getfield 66, 3) := by decide +kernel
theorem dX4_root_172 : decode cX4_root 172 = .ok (.iconst 0, 1) := by decide +kernel
theorem dX4_root_173 : decode cX4_root 173 = .ok (.laload, 1) := by decide +kernel
theorem dX4_root_174 : decode cX4_root 174 = .ok (.lor, 1) := by decide +kernel
theorem dX4_root_175 : decode cX4_root 175 = .ok (.lreturn, 1) := by decide +kernel
theorem dX4_blockOf_0 : decode cX4_blockOf 0 = .ok (.iload_n 0, 1) := by decide +kernel
theorem dX4_blockOf_1 : decode cX4_blockOf 1 = .ok (.iconst 2, 1) := by decide +kernel
theorem dX4_blockOf_2 : decode cX4_blockOf 2 = .ok (.if_icmp .ge 8, 3) := by decide +kernel
theorem dX4_blockOf_5 : decode cX4_blockOf 5 = .ok (.bipush 64, 2) := by decide +kernel
theorem dX4_blockOf_7 : decode cX4_blockOf 7 = .ok (.goto 6, 3) := by decide +kernel
theorem dX4_blockOf_10 : decode cX4_blockOf 10 = .ok (.sipush 128, 3) := by decide +kernel
theorem dX4_blockOf_13 : decode cX4_blockOf 13 = .ok (.ireturn, 1) := by decide +kernel
theorem dX4_digestOf_0 : decode cX4_digestOf 0 = .ok (.iload_n 0, 1) := by decide +kernel
theorem dX4_digestOf_1 : decode cX4_digestOf 1 = .ok (.ifCond .ne 8, 3) := by decide +kernel
theorem dX4_digestOf_4 : decode cX4_digestOf 4 = .ok (.bipush 28, 2) := by decide +kernel
theorem dX4_digestOf_6 : decode cX4_digestOf 6 = .ok (.goto 25, 3) := by decide +kernel
theorem dX4_digestOf_9 : decode cX4_digestOf 9 = .ok (.iload_n 0, 1) := by decide +kernel
theorem dX4_digestOf_10 : decode cX4_digestOf 10 = .ok (.iconst 1, 1) := by decide +kernel
theorem dX4_digestOf_11 : decode cX4_digestOf 11 = .ok (.if_icmp .ne 8, 3) := by decide +kernel
theorem dX4_digestOf_14 : decode cX4_digestOf 14 = .ok (.bipush 32, 2) := by decide +kernel
theorem dX4_digestOf_16 : decode cX4_digestOf 16 = .ok (.goto 15, 3) := by decide +kernel
theorem dX4_digestOf_19 : decode cX4_digestOf 19 = .ok (.iload_n 0, 1) := by decide +kernel
theorem dX4_digestOf_20 : decode cX4_digestOf 20 = .ok (.iconst 2, 1) := by decide +kernel
theorem dX4_digestOf_21 : decode cX4_digestOf 21 = .ok (.if_icmp .ne 8, 3) := by decide +kernel
theorem dX4_digestOf_24 : decode cX4_digestOf 24 = .ok (.bipush 48, 2) := by decide +kernel
theorem dX4_digestOf_26 : decode cX4_digestOf 26 = .ok (.goto 5, 3) := by decide +kernel
theorem dX4_digestOf_29 : decode cX4_digestOf 29 = .ok (.bipush 64, 2) := by decide +kernel
theorem dX4_digestOf_31 : decode cX4_digestOf 31 = .ok (.ireturn, 1) := by decide +kernel
theorem dX4_start_0 : decode cX4_start 0 = .ok (.aload_n 0, 1) := by decide +kernel
theorem dX4_start_1 : decode cX4_start 1 = .ok (.getfield 20, 3) := by decide +kernel
theorem dX4_start_4 : decode cX4_start 4 = .ok (.iload_n 1, 1) := by decide +kernel
theorem dX4_start_5 : decode cX4_start 5 = .ok (.iload_n 2, 1) := by decide +kernel
theorem dX4_start_6 : decode cX4_start 6 = .ok (.iastore, 1) := by decide +kernel
theorem dX4_start_7 : decode cX4_start 7 = .ok (.aload_n 0, 1) := by decide +kernel
theorem dX4_start_8 : decode cX4_start 8 = .ok (.getfield 29, 3) := by decide +kernel
theorem dX4_start_11 : decode cX4_start 11 = .ok (.iload_n 1, 1) := by decide +kernel
theorem dX4_start_12 : decode cX4_start 12 = .ok (.iconst 0, 1) := by decide +kernel
theorem dX4_start_13 : decode cX4_start 13 = .ok (.iastore, 1) := by decide +kernel
theorem dX4_start_14 : decode cX4_start 14 = .ok (.aload_n 0, 1) := by decide +kernel
theorem dX4_start_15 : decode cX4_start 15 = .ok (.getfield 32, 3) := by decide +kernel
theorem dX4_start_18 : decode cX4_start 18 = .ok (.iload_n 1, 1) := by decide +kernel
theorem dX4_start_19 : decode cX4_start 19 = .ok (.lconst 0, 1) := by decide +kernel
theorem dX4_start_20 : decode cX4_start 20 = .ok (.lastore, 1) := by decide +kernel
theorem dX4_start_21 : decode cX4_start 21 = .ok (.iconst 0, 1) := by decide +kernel
theorem dX4_start_22 : decode cX4_start 22 = .ok (.istore_n 3, 1) := by decide +kernel
theorem dX4_start_23 : decode cX4_start 23 = .ok (.iload_n 3, 1) := by decide +kernel
theorem dX4_start_24 : decode cX4_start 24 = .ok (.bipush 8, 2) := by decide +kernel
theorem dX4_start_26 : decode cX4_start 26 = .ok (.if_icmp .ge 78, 3) := by decide +kernel
theorem dX4_start_29 : decode cX4_start 29 = .ok (.iload_n 2, 1) := by decide +kernel
theorem dX4_start_30 : decode cX4_start 30 = .ok (.iconst 1, 1) := by decide +kernel
theorem dX4_start_31 : decode cX4_start 31 = .ok (.if_icmp .eq 8, 3) := by decide +kernel
theorem dX4_start_34 : decode cX4_start 34 = .ok (.iload_n 2, 1) := by decide +kernel
theorem dX4_start_35 : decode cX4_start 35 = .ok (.iconst 3, 1) := by decide +kernel
theorem dX4_start_36 : decode cX4_start 36 = .ok (.if_icmp .ne 12, 3) := by decide +kernel
theorem dX4_start_39 : decode cX4_start 39 = .ok (.aload_n 0, 1) := by decide +kernel
theorem dX4_start_40 : decode cX4_start 40 = .ok (.getfield 17, 3) := by decide +kernel
theorem dX4_start_43 : decode cX4_start 43 = .ok (.iload_n 3, 1) := by decide +kernel
theorem dX4_start_44 : decode cX4_start 44 = .ok (.laload, 1) := by decide +kernel
theorem dX4_start_45 : decode cX4_start 45 = .ok (.goto 12, 3) := by decide +kernel
theorem dX4_start_48 : decode cX4_start 48 = .ok (.aload_n 0, 1) := by decide +kernel
theorem dX4_start_49 : decode cX4_start 49 = .ok (.getfield 17, 3) := by decide +kernel
theorem dX4_start_52 : decode cX4_start 52 = .ok (.bipush 8, 2) := by decide +kernel
theorem dX4_start_54 : decode cX4_start 54 = .ok (.iload_n 3, 1) := by decide +kernel
theorem dX4_start_55 : decode cX4_start 55 = .ok (.iadd, 1) := by decide +kernel
theorem dX4_start_56 : decode cX4_start 56 = .ok (.laload, 1) := by decide +kernel
theorem dX4_start_57 : decode cX4_start 57 = .ok (.lstore 4, 2) := by decide +kernel
theorem dX4_start_59 : decode cX4_start 59 = .ok (.aload_n 0, 1) := by decide +kernel
theorem dX4_start_60 : decode cX4_start 60 = .ok (.getfield 23, 3) := by decide +kernel
theorem dX4_start_63 : decode cX4_start 63 = .ok (.bipush 8, 2) := by decide +kernel
theorem dX4_start_65 : decode cX4_start 65 = .ok (.iload_n 1, 1) := by decide +kernel
theorem dX4_start_66 : decode cX4_start 66 = .ok (.imul, 1) := by decide +kernel
theorem dX4_start_67 : decode cX4_start 67 = .ok (.iload_n 3, 1) := by decide +kernel
theorem dX4_start_68 : decode cX4_start 68 = .ok (.iadd, 1) := by decide +kernel
theorem dX4_start_69 : decode cX4_start 69 = .ok (.iload_n 2, 1) := by decide +kernel
theorem dX4_start_70 : decode cX4_start 70 = .ok (.ifCond .ne 12, 3) := by decide +kernel
theorem dX4_start_73 : decode cX4_start 73 = .ok (.lload 4, 2) := by decide +kernel
theorem dX4_start_75 : decode cX4_start 75 = .ok (.ldc2_w 112, 3) := by decide +kernel
theorem dX4_start_78 : decode cX4_start 78 = .ok (.land, 1) := by decide +kernel
theorem dX4_start_79 : decode cX4_start 79 = .ok (.goto 18, 3) := by decide +kernel
theorem dX4_start_82 : decode cX4_start 82 = .ok (.iload_n 2, 1) := by decide +kernel
theorem dX4_start_83 : decode cX4_start 83 = .ok (.iconst 1, 1) := by decide +kernel
theorem dX4_start_84 : decode cX4_start 84 = .ok (.if_icmp .ne 11, 3) := by decide +kernel
theorem dX4_start_87 : decode cX4_start 87 = .ok (.lload 4, 2) := by decide +kernel
theorem dX4_start_89 : decode cX4_start 89 = .ok (.bipush 32, 2) := by decide +kernel
theorem dX4_start_91 : decode cX4_start 91 = .ok (.lushr, 1) := by decide +kernel
theorem dX4_start_92 : decode cX4_start 92 = .ok (.goto 5, 3) := by decide +kernel
theorem dX4_start_95 : decode cX4_start 95 = .ok (.lload 4, 2) := by decide +kernel
theorem dX4_start_97 : decode cX4_start 97 = .ok (.lastore, 1) := by decide +kernel
theorem dX4_start_98 : decode cX4_start 98 = .ok (.iinc 3 1, 3) := by decide +kernel
theorem dX4_start_101 : decode cX4_start 101 = .ok (.goto (-78), 3) := by decide +kernel
theorem dX4_start_104 : decode cX4_start 104 = .ok (.return_, 1) := by decide +kernel
theorem dX4_turn_0 : decode cX4_turn 0 = .ok (.iload_n 0, 1) := by decide +kernel
theorem dX4_turn_1 : decode cX4_turn 1 = .ok (.iload_n 1, 1) := by decide +kernel
theorem dX4_turn_2 : decode cX4_turn 2 = .ok (.iushr, 1) := by decide +kernel
theorem dX4_turn_3 : decode cX4_turn 3 = .ok (.iload_n 0, 1) := by decide +kernel
theorem dX4_turn_4 : decode cX4_turn 4 = .ok (.bipush 32, 2) := by decide +kernel
theorem dX4_turn_6 : decode cX4_turn 6 = .ok (.iload_n 1, 1) := by decide +kernel
theorem dX4_turn_7 : decode cX4_turn 7 = .ok (.isub, 1) := by decide +kernel
theorem dX4_turn_8 : decode cX4_turn 8 = .ok (.ishl, 1) := by decide +kernel
theorem dX4_turn_9 : decode cX4_turn 9 = .ok (.ior, 1) := by decide +kernel
theorem dX4_turn_10 : decode cX4_turn 10 = .ok (.ireturn, 1) := by decide +kernel
theorem dX4_turnLong_0 : decode cX4_turnLong 0 = .ok (.lload_n 0, 1) := by decide +kernel
theorem dX4_turnLong_1 : decode cX4_turnLong 1 = .ok (.iload_n 2, 1) := by decide +kernel
theorem dX4_turnLong_2 : decode cX4_turnLong 2 = .ok (.lushr, 1) := by decide +kernel
theorem dX4_turnLong_3 : decode cX4_turnLong 3 = .ok (.lload_n 0, 1) := by decide +kernel
theorem dX4_turnLong_4 : decode cX4_turnLong 4 = .ok (.bipush 64, 2) := by decide +kernel
theorem dX4_turnLong_6 : decode cX4_turnLong 6 = .ok (.iload_n 2, 1) := by decide +kernel
theorem dX4_turnLong_7 : decode cX4_turnLong 7 = .ok (.isub, 1) := by decide +kernel
theorem dX4_turnLong_8 : decode cX4_turnLong 8 = .ok (.lshl, 1) := by decide +kernel
theorem dX4_turnLong_9 : decode cX4_turnLong 9 = .ok (.lor, 1) := by decide +kernel
theorem dX4_turnLong_10 : decode cX4_turnLong 10 = .ok (.lreturn, 1) := by decide +kernel
theorem dX4_narrowBlock_0 : decode cX4_narrowBlock 0 = .ok (.iconst 0, 1) := by decide +kernel
theorem dX4_narrowBlock_1 : decode cX4_narrowBlock 1 = .ok (.istore_n 2, 1) := by decide +kernel
theorem dX4_narrowBlock_2 : decode cX4_narrowBlock 2 = .ok (.iload_n 2, 1) := by decide +kernel
theorem dX4_narrowBlock_3 : decode cX4_narrowBlock 3 = .ok (.bipush 16, 2) := by decide +kernel
theorem dX4_narrowBlock_5 : decode cX4_narrowBlock 5 = .ok (.if_icmp .ge 67, 3) := by decide +kernel
theorem dX4_narrowBlock_8 : decode cX4_narrowBlock 8 = .ok (.sipush 128, 3) := by decide +kernel
theorem dX4_narrowBlock_11 : decode cX4_narrowBlock 11 = .ok (.iload_n 1, 1) := by decide +kernel
theorem dX4_narrowBlock_12 : decode cX4_narrowBlock 12 = .ok (.imul, 1) := by decide +kernel
theorem dX4_narrowBlock_13 : decode cX4_narrowBlock 13 = .ok (.iconst 4, 1) := by decide +kernel
theorem dX4_narrowBlock_14 : decode cX4_narrowBlock 14 = .ok (.iload_n 2, 1) := by decide +kernel
theorem dX4_narrowBlock_15 : decode cX4_narrowBlock 15 = .ok (.imul, 1) := by decide +kernel
theorem dX4_narrowBlock_16 : decode cX4_narrowBlock 16 = .ok (.iadd, 1) := by decide +kernel
theorem dX4_narrowBlock_17 : decode cX4_narrowBlock 17 = .ok (.istore_n 3, 1) := by decide +kernel
theorem dX4_narrowBlock_18 : decode cX4_narrowBlock 18 = .ok (.aload_n 0, 1) := by decide +kernel
theorem dX4_narrowBlock_19 : decode cX4_narrowBlock 19 = .ok (.getfield 75, 3) := by decide +kernel
theorem dX4_narrowBlock_22 : decode cX4_narrowBlock 22 = .ok (.iload_n 2, 1) := by decide +kernel
theorem dX4_narrowBlock_23 : decode cX4_narrowBlock 23 = .ok (.aload_n 0, 1) := by decide +kernel
theorem dX4_narrowBlock_24 : decode cX4_narrowBlock 24 = .ok (.getfield 26, 3) := by decide +kernel
theorem dX4_narrowBlock_27 : decode cX4_narrowBlock 27 = .ok (.iload_n 3, 1) := by decide +kernel
theorem dX4_narrowBlock_28 : decode cX4_narrowBlock 28 = .ok (.iaload, 1) := by decide +kernel
theorem dX4_narrowBlock_29 : decode cX4_narrowBlock 29 = .ok (.bipush 24, 2) := by decide +kernel
theorem dX4_narrowBlock_31 : decode cX4_narrowBlock 31 = .ok (.ishl, 1) := by decide +kernel
theorem dX4_narrowBlock_32 : decode cX4_narrowBlock 32 = .ok (.aload_n 0, 1) := by decide +kernel
theorem dX4_narrowBlock_33 : decode cX4_narrowBlock 33 = .ok (.getfield 26, 3) := by decide +kernel
theorem dX4_narrowBlock_36 : decode cX4_narrowBlock 36 = .ok (.iload_n 3, 1) := by decide +kernel
theorem dX4_narrowBlock_37 : decode cX4_narrowBlock 37 = .ok (.iconst 1, 1) := by decide +kernel
theorem dX4_narrowBlock_38 : decode cX4_narrowBlock 38 = .ok (.iadd, 1) := by decide +kernel
theorem dX4_narrowBlock_39 : decode cX4_narrowBlock 39 = .ok (.iaload, 1) := by decide +kernel
theorem dX4_narrowBlock_40 : decode cX4_narrowBlock 40 = .ok (.bipush 16, 2) := by decide +kernel
theorem dX4_narrowBlock_42 : decode cX4_narrowBlock 42 = .ok (.ishl, 1) := by decide +kernel
theorem dX4_narrowBlock_43 : decode cX4_narrowBlock 43 = .ok (.ior, 1) := by decide +kernel
theorem dX4_narrowBlock_44 : decode cX4_narrowBlock 44 = .ok (.aload_n 0, 1) := by decide +kernel
theorem dX4_narrowBlock_45 : decode cX4_narrowBlock 45 = .ok (.getfield 26, 3) := by decide +kernel
theorem dX4_narrowBlock_48 : decode cX4_narrowBlock 48 = .ok (.iload_n 3, 1) := by decide +kernel
theorem dX4_narrowBlock_49 : decode cX4_narrowBlock 49 = .ok (.iconst 2, 1) := by decide +kernel
theorem dX4_narrowBlock_50 : decode cX4_narrowBlock 50 = .ok (.iadd, 1) := by decide +kernel
theorem dX4_narrowBlock_51 : decode cX4_narrowBlock 51 = .ok (.iaload, 1) := by decide +kernel
theorem dX4_narrowBlock_52 : decode cX4_narrowBlock 52 = .ok (.bipush 8, 2) := by decide +kernel
theorem dX4_narrowBlock_54 : decode cX4_narrowBlock 54 = .ok (.ishl, 1) := by decide +kernel
theorem dX4_narrowBlock_55 : decode cX4_narrowBlock 55 = .ok (.ior, 1) := by decide +kernel
theorem dX4_narrowBlock_56 : decode cX4_narrowBlock 56 = .ok (.aload_n 0, 1) := by decide +kernel
theorem dX4_narrowBlock_57 : decode cX4_narrowBlock 57 = .ok (.getfield 26, 3) := by decide +kernel
theorem dX4_narrowBlock_60 : decode cX4_narrowBlock 60 = .ok (.iload_n 3, 1) := by decide +kernel
theorem dX4_narrowBlock_61 : decode cX4_narrowBlock 61 = .ok (.iconst 3, 1) := by decide +kernel
theorem dX4_narrowBlock_62 : decode cX4_narrowBlock 62 = .ok (.iadd, 1) := by decide +kernel
theorem dX4_narrowBlock_63 : decode cX4_narrowBlock 63 = .ok (.iaload, 1) := by decide +kernel
theorem dX4_narrowBlock_64 : decode cX4_narrowBlock 64 = .ok (.ior, 1) := by decide +kernel
theorem dX4_narrowBlock_65 : decode cX4_narrowBlock 65 = .ok (.iastore, 1) := by decide +kernel
theorem dX4_narrowBlock_66 : decode cX4_narrowBlock 66 = .ok (.iinc 2 1, 3) := by decide +kernel
theorem dX4_narrowBlock_69 : decode cX4_narrowBlock 69 = .ok (.goto (-67), 3) := by decide +kernel
theorem dX4_narrowBlock_72 : decode cX4_narrowBlock 72 = .ok (.bipush 16, 2) := by decide +kernel
theorem dX4_narrowBlock_74 : decode cX4_narrowBlock 74 = .ok (.istore_n 2, 1) := by decide +kernel
theorem dX4_narrowBlock_75 : decode cX4_narrowBlock 75 = .ok (.iload_n 2, 1) := by decide +kernel
theorem dX4_narrowBlock_76 : decode cX4_narrowBlock 76 = .ok (.bipush 64, 2) := by decide +kernel
theorem dX4_narrowBlock_78 : decode cX4_narrowBlock 78 = .ok (.if_icmp .ge 94, 3) := by decide +kernel
theorem dX4_narrowBlock_81 : decode cX4_narrowBlock 81 = .ok (.aload_n 0, 1) := by decide +kernel
theorem dX4_narrowBlock_82 : decode cX4_narrowBlock 82 = .ok (.getfield 75, 3) := by decide +kernel
theorem dX4_narrowBlock_85 : decode cX4_narrowBlock 85 = .ok (.iload_n 2, 1) := by decide +kernel
theorem dX4_narrowBlock_86 : decode cX4_narrowBlock 86 = .ok (.iconst 2, 1) := by decide +kernel
theorem dX4_narrowBlock_87 : decode cX4_narrowBlock 87 = .ok (.isub, 1) := by decide +kernel
theorem dX4_narrowBlock_88 : decode cX4_narrowBlock 88 = .ok (.iaload, 1) := by decide +kernel
theorem dX4_narrowBlock_89 : decode cX4_narrowBlock 89 = .ok (.istore_n 3, 1) := by decide +kernel
theorem dX4_narrowBlock_90 : decode cX4_narrowBlock 90 = .ok (.aload_n 0, 1) := by decide +kernel
theorem dX4_narrowBlock_91 : decode cX4_narrowBlock 91 = .ok (.getfield 75, 3) := by decide +kernel
theorem dX4_narrowBlock_94 : decode cX4_narrowBlock 94 = .ok (.iload_n 2, 1) := by decide +kernel
theorem dX4_narrowBlock_95 : decode cX4_narrowBlock 95 = .ok (.bipush 15, 2) := by decide +kernel
theorem dX4_narrowBlock_97 : decode cX4_narrowBlock 97 = .ok (.isub, 1) := by decide +kernel
theorem dX4_narrowBlock_98 : decode cX4_narrowBlock 98 = .ok (.iaload, 1) := by decide +kernel
theorem dX4_narrowBlock_99 : decode cX4_narrowBlock 99 = .ok (.istore 4, 2) := by decide +kernel
theorem dX4_narrowBlock_101 : decode cX4_narrowBlock 101 = .ok (.aload_n 0, 1) := by decide +kernel
theorem dX4_narrowBlock_102 : decode cX4_narrowBlock 102 = .ok (.getfield 75, 3) := by decide +kernel
theorem dX4_narrowBlock_105 : decode cX4_narrowBlock 105 = .ok (.iload_n 2, 1) := by decide +kernel
theorem dX4_narrowBlock_106 : decode cX4_narrowBlock 106 = .ok (.iload_n 3, 1) := by decide +kernel
theorem dX4_narrowBlock_107 : decode cX4_narrowBlock 107 = .ok (.bipush 17, 2) := by decide +kernel
theorem dX4_narrowBlock_109 : decode cX4_narrowBlock 109 = .ok (.invokestatic 114, 3) := by decide +kernel
theorem dX4_narrowBlock_112 : decode cX4_narrowBlock 112 = .ok (.iload_n 3, 1) := by decide +kernel
theorem dX4_narrowBlock_113 : decode cX4_narrowBlock 113 = .ok (.bipush 19, 2) := by decide +kernel
theorem dX4_narrowBlock_115 : decode cX4_narrowBlock 115 = .ok (.invokestatic 114, 3) := by decide +kernel
theorem dX4_narrowBlock_118 : decode cX4_narrowBlock 118 = .ok (.ixor, 1) := by decide +kernel
theorem dX4_narrowBlock_119 : decode cX4_narrowBlock 119 = .ok (.iload_n 3, 1) := by decide +kernel
theorem dX4_narrowBlock_120 : decode cX4_narrowBlock 120 = .ok (.bipush 10, 2) := by decide +kernel
theorem dX4_narrowBlock_122 : decode cX4_narrowBlock 122 = .ok (.iushr, 1) := by decide +kernel
theorem dX4_narrowBlock_123 : decode cX4_narrowBlock 123 = .ok (.ixor, 1) := by decide +kernel
theorem dX4_narrowBlock_124 : decode cX4_narrowBlock 124 = .ok (.aload_n 0, 1) := by decide +kernel
theorem dX4_narrowBlock_125 : decode cX4_narrowBlock 125 = .ok (.getfield 75, 3) := by decide +kernel
theorem dX4_narrowBlock_128 : decode cX4_narrowBlock 128 = .ok (.iload_n 2, 1) := by decide +kernel
theorem dX4_narrowBlock_129 : decode cX4_narrowBlock 129 = .ok (.bipush 7, 2) := by decide +kernel
theorem dX4_narrowBlock_131 : decode cX4_narrowBlock 131 = .ok (.isub, 1) := by decide +kernel
theorem dX4_narrowBlock_132 : decode cX4_narrowBlock 132 = .ok (.iaload, 1) := by decide +kernel
theorem dX4_narrowBlock_133 : decode cX4_narrowBlock 133 = .ok (.iadd, 1) := by decide +kernel
theorem dX4_narrowBlock_134 : decode cX4_narrowBlock 134 = .ok (.iload 4, 2) := by decide +kernel
theorem dX4_narrowBlock_136 : decode cX4_narrowBlock 136 = .ok (.bipush 7, 2) := by decide +kernel
theorem dX4_narrowBlock_138 : decode cX4_narrowBlock 138 = .ok (.invokestatic 114, 3) := by decide +kernel
theorem dX4_narrowBlock_141 : decode cX4_narrowBlock 141 = .ok (.iload 4, 2) := by decide +kernel
theorem dX4_narrowBlock_143 : decode cX4_narrowBlock 143 = .ok (.bipush 18, 2) := by decide +kernel
theorem dX4_narrowBlock_145 : decode cX4_narrowBlock 145 = .ok (.invokestatic 114, 3) := by decide +kernel
theorem dX4_narrowBlock_148 : decode cX4_narrowBlock 148 = .ok (.ixor, 1) := by decide +kernel
theorem dX4_narrowBlock_149 : decode cX4_narrowBlock 149 = .ok (.iload 4, 2) := by decide +kernel
theorem dX4_narrowBlock_151 : decode cX4_narrowBlock 151 = .ok (.iconst 3, 1) := by decide +kernel
theorem dX4_narrowBlock_152 : decode cX4_narrowBlock 152 = .ok (.iushr, 1) := by decide +kernel
theorem dX4_narrowBlock_153 : decode cX4_narrowBlock 153 = .ok (.ixor, 1) := by decide +kernel
theorem dX4_narrowBlock_154 : decode cX4_narrowBlock 154 = .ok (.iadd, 1) := by decide +kernel
theorem dX4_narrowBlock_155 : decode cX4_narrowBlock 155 = .ok (.aload_n 0, 1) := by decide +kernel
theorem dX4_narrowBlock_156 : decode cX4_narrowBlock 156 = .ok (.getfield 75, 3) := by decide +kernel
theorem dX4_narrowBlock_159 : decode cX4_narrowBlock 159 = .ok (.iload_n 2, 1) := by decide +kernel
theorem dX4_narrowBlock_160 : decode cX4_narrowBlock 160 = .ok (.bipush 16, 2) := by decide +kernel
theorem dX4_narrowBlock_162 : decode cX4_narrowBlock 162 = .ok (.isub, 1) := by decide +kernel
theorem dX4_narrowBlock_163 : decode cX4_narrowBlock 163 = .ok (.iaload, 1) := by decide +kernel
theorem dX4_narrowBlock_164 : decode cX4_narrowBlock 164 = .ok (.iadd, 1) := by decide +kernel
theorem dX4_narrowBlock_165 : decode cX4_narrowBlock 165 = .ok (.iastore, 1) := by decide +kernel
theorem dX4_narrowBlock_166 : decode cX4_narrowBlock 166 = .ok (.iinc 2 1, 3) := by decide +kernel
theorem dX4_narrowBlock_169 : decode cX4_narrowBlock 169 = .ok (.goto (-94), 3) := by decide +kernel
theorem dX4_narrowBlock_172 : decode cX4_narrowBlock 172 = .ok (.bipush 8, 2) := by decide +kernel
theorem dX4_narrowBlock_174 : decode cX4_narrowBlock 174 = .ok (.iload_n 1, 1) := by decide +kernel
theorem dX4_narrowBlock_175 : decode cX4_narrowBlock 175 = .ok (.imul, 1) := by decide +kernel
theorem dX4_narrowBlock_176 : decode cX4_narrowBlock 176 = .ok (.istore_n 2, 1) := by decide +kernel
theorem dX4_narrowBlock_177 : decode cX4_narrowBlock 177 = .ok (.aload_n 0, 1) := by decide +kernel
theorem dX4_narrowBlock_178 : decode cX4_narrowBlock 178 = .ok (.getfield 23, 3) := by decide +kernel
theorem dX4_narrowBlock_181 : decode cX4_narrowBlock 181 = .ok (.iload_n 2, 1) := by decide +kernel
theorem dX4_narrowBlock_182 : decode cX4_narrowBlock 182 = .ok (.laload, 1) := by decide +kernel
theorem dX4_narrowBlock_183 : decode cX4_narrowBlock 183 = .ok (.l2i, 1) := by decide +kernel
theorem dX4_narrowBlock_184 : decode cX4_narrowBlock 184 = .ok (.istore_n 3, 1) := by decide +kernel
theorem dX4_narrowBlock_185 : decode cX4_narrowBlock 185 = .ok (.aload_n 0, 1) := by decide +kernel
theorem dX4_narrowBlock_186 : decode cX4_narrowBlock 186 = .ok (.getfield 23, 3) := by decide +kernel
theorem dX4_narrowBlock_189 : decode cX4_narrowBlock 189 = .ok (.iload_n 2, 1) := by decide +kernel
theorem dX4_narrowBlock_190 : decode cX4_narrowBlock 190 = .ok (.iconst 1, 1) := by decide +kernel
theorem dX4_narrowBlock_191 : decode cX4_narrowBlock 191 = .ok (.iadd, 1) := by decide +kernel
theorem dX4_narrowBlock_192 : decode cX4_narrowBlock 192 = .ok (.laload, 1) := by decide +kernel
theorem dX4_narrowBlock_193 : decode cX4_narrowBlock 193 = .ok (.l2i, 1) := by decide +kernel
theorem dX4_narrowBlock_194 : decode cX4_narrowBlock 194 = .ok (.istore 4, 2) := by decide +kernel
theorem dX4_narrowBlock_196 : decode cX4_narrowBlock 196 = .ok (.aload_n 0, 1) := by decide +kernel
theorem dX4_narrowBlock_197 : decode cX4_narrowBlock 197 = .ok (.getfield 23, 3) := by decide +kernel
theorem dX4_narrowBlock_200 : decode cX4_narrowBlock 200 = .ok (.iload_n 2, 1) := by decide +kernel
theorem dX4_narrowBlock_201 : decode cX4_narrowBlock 201 = .ok (.iconst 2, 1) := by decide +kernel
theorem dX4_narrowBlock_202 : decode cX4_narrowBlock 202 = .ok (.iadd, 1) := by decide +kernel
theorem dX4_narrowBlock_203 : decode cX4_narrowBlock 203 = .ok (.laload, 1) := by decide +kernel
theorem dX4_narrowBlock_204 : decode cX4_narrowBlock 204 = .ok (.l2i, 1) := by decide +kernel
theorem dX4_narrowBlock_205 : decode cX4_narrowBlock 205 = .ok (.istore 5, 2) := by decide +kernel
theorem dX4_narrowBlock_207 : decode cX4_narrowBlock 207 = .ok (.aload_n 0, 1) := by decide +kernel
theorem dX4_narrowBlock_208 : decode cX4_narrowBlock 208 = .ok (.getfield 23, 3) := by decide +kernel
theorem dX4_narrowBlock_211 : decode cX4_narrowBlock 211 = .ok (.iload_n 2, 1) := by decide +kernel
theorem dX4_narrowBlock_212 : decode cX4_narrowBlock 212 = .ok (.iconst 3, 1) := by decide +kernel
theorem dX4_narrowBlock_213 : decode cX4_narrowBlock 213 = .ok (.iadd, 1) := by decide +kernel
theorem dX4_narrowBlock_214 : decode cX4_narrowBlock 214 = .ok (.laload, 1) := by decide +kernel
theorem dX4_narrowBlock_215 : decode cX4_narrowBlock 215 = .ok (.l2i, 1) := by decide +kernel
theorem dX4_narrowBlock_216 : decode cX4_narrowBlock 216 = .ok (.istore 6, 2) := by decide +kernel
theorem dX4_narrowBlock_218 : decode cX4_narrowBlock 218 = .ok (.aload_n 0, 1) := by decide +kernel
theorem dX4_narrowBlock_219 : decode cX4_narrowBlock 219 = .ok (.getfield 23, 3) := by decide +kernel
theorem dX4_narrowBlock_222 : decode cX4_narrowBlock 222 = .ok (.iload_n 2, 1) := by decide +kernel
theorem dX4_narrowBlock_223 : decode cX4_narrowBlock 223 = .ok (.iconst 4, 1) := by decide +kernel
theorem dX4_narrowBlock_224 : decode cX4_narrowBlock 224 = .ok (.iadd, 1) := by decide +kernel
theorem dX4_narrowBlock_225 : decode cX4_narrowBlock 225 = .ok (.laload, 1) := by decide +kernel
theorem dX4_narrowBlock_226 : decode cX4_narrowBlock 226 = .ok (.l2i, 1) := by decide +kernel
theorem dX4_narrowBlock_227 : decode cX4_narrowBlock 227 = .ok (.istore 7, 2) := by decide +kernel
theorem dX4_narrowBlock_229 : decode cX4_narrowBlock 229 = .ok (.aload_n 0, 1) := by decide +kernel
theorem dX4_narrowBlock_230 : decode cX4_narrowBlock 230 = .ok (.getfield 23, 3) := by decide +kernel
theorem dX4_narrowBlock_233 : decode cX4_narrowBlock 233 = .ok (.iload_n 2, 1) := by decide +kernel
theorem dX4_narrowBlock_234 : decode cX4_narrowBlock 234 = .ok (.iconst 5, 1) := by decide +kernel
theorem dX4_narrowBlock_235 : decode cX4_narrowBlock 235 = .ok (.iadd, 1) := by decide +kernel
theorem dX4_narrowBlock_236 : decode cX4_narrowBlock 236 = .ok (.laload, 1) := by decide +kernel
theorem dX4_narrowBlock_237 : decode cX4_narrowBlock 237 = .ok (.l2i, 1) := by decide +kernel
theorem dX4_narrowBlock_238 : decode cX4_narrowBlock 238 = .ok (.istore 8, 2) := by decide +kernel
theorem dX4_narrowBlock_240 : decode cX4_narrowBlock 240 = .ok (.aload_n 0, 1) := by decide +kernel
theorem dX4_narrowBlock_241 : decode cX4_narrowBlock 241 = .ok (.getfield 23, 3) := by decide +kernel
theorem dX4_narrowBlock_244 : decode cX4_narrowBlock 244 = .ok (.iload_n 2, 1) := by decide +kernel
theorem dX4_narrowBlock_245 : decode cX4_narrowBlock 245 = .ok (.bipush 6, 2) := by decide +kernel
theorem dX4_narrowBlock_247 : decode cX4_narrowBlock 247 = .ok (.iadd, 1) := by decide +kernel
theorem dX4_narrowBlock_248 : decode cX4_narrowBlock 248 = .ok (.laload, 1) := by decide +kernel
theorem dX4_narrowBlock_249 : decode cX4_narrowBlock 249 = .ok (.l2i, 1) := by decide +kernel
theorem dX4_narrowBlock_250 : decode cX4_narrowBlock 250 = .ok (.istore 9, 2) := by decide +kernel
theorem dX4_narrowBlock_252 : decode cX4_narrowBlock 252 = .ok (.aload_n 0, 1) := by decide +kernel
theorem dX4_narrowBlock_253 : decode cX4_narrowBlock 253 = .ok (.getfield 23, 3) := by decide +kernel
theorem dX4_narrowBlock_256 : decode cX4_narrowBlock 256 = .ok (.iload_n 2, 1) := by decide +kernel
theorem dX4_narrowBlock_257 : decode cX4_narrowBlock 257 = .ok (.bipush 7, 2) := by decide +kernel
theorem dX4_narrowBlock_259 : decode cX4_narrowBlock 259 = .ok (.iadd, 1) := by decide +kernel
theorem dX4_narrowBlock_260 : decode cX4_narrowBlock 260 = .ok (.laload, 1) := by decide +kernel
theorem dX4_narrowBlock_261 : decode cX4_narrowBlock 261 = .ok (.l2i, 1) := by decide +kernel
theorem dX4_narrowBlock_262 : decode cX4_narrowBlock 262 = .ok (.istore 10, 2) := by decide +kernel
theorem dX4_narrowBlock_264 : decode cX4_narrowBlock 264 = .ok (.iconst 0, 1) := by decide +kernel
theorem dX4_narrowBlock_265 : decode cX4_narrowBlock 265 = .ok (.istore 11, 2) := by decide +kernel
theorem dX4_narrowBlock_267 : decode cX4_narrowBlock 267 = .ok (.iload 11, 2) := by decide +kernel
theorem dX4_narrowBlock_269 : decode cX4_narrowBlock 269 = .ok (.bipush 64, 2) := by decide +kernel
theorem dX4_narrowBlock_271 : decode cX4_narrowBlock 271 = .ok (.if_icmp .ge 144, 3) := by decide +kernel
theorem dX4_narrowBlock_274 : decode cX4_narrowBlock 274 = .ok (.iload 10, 2) := by decide +kernel
theorem dX4_narrowBlock_276 : decode cX4_narrowBlock 276 = .ok (.iload 7, 2) := by decide +kernel
theorem dX4_narrowBlock_278 : decode cX4_narrowBlock 278 = .ok (.bipush 6, 2) := by decide +kernel
theorem dX4_narrowBlock_280 : decode cX4_narrowBlock 280 = .ok (.invokestatic 114, 3) := by decide +kernel
theorem dX4_narrowBlock_283 : decode cX4_narrowBlock 283 = .ok (.iload 7, 2) := by decide +kernel
theorem dX4_narrowBlock_285 : decode cX4_narrowBlock 285 = .ok (.bipush 11, 2) := by decide +kernel
theorem dX4_narrowBlock_287 : decode cX4_narrowBlock 287 = .ok (.invokestatic 114, 3) := by decide +kernel
theorem dX4_narrowBlock_290 : decode cX4_narrowBlock 290 = .ok (.ixor, 1) := by decide +kernel
theorem dX4_narrowBlock_291 : decode cX4_narrowBlock 291 = .ok (.iload 7, 2) := by decide +kernel
theorem dX4_narrowBlock_293 : decode cX4_narrowBlock 293 = .ok (.bipush 25, 2) := by decide +kernel
theorem dX4_narrowBlock_295 : decode cX4_narrowBlock 295 = .ok (.invokestatic 114, 3) := by decide +kernel
theorem dX4_narrowBlock_298 : decode cX4_narrowBlock 298 = .ok (.ixor, 1) := by decide +kernel
theorem dX4_narrowBlock_299 : decode cX4_narrowBlock 299 = .ok (.iadd, 1) := by decide +kernel
theorem dX4_narrowBlock_300 : decode cX4_narrowBlock 300 = .ok (.iload 7, 2) := by decide +kernel
theorem dX4_narrowBlock_302 : decode cX4_narrowBlock 302 = .ok (.iload 8, 2) := by decide +kernel
theorem dX4_narrowBlock_304 : decode cX4_narrowBlock 304 = .ok (.iand, 1) := by decide +kernel
theorem dX4_narrowBlock_305 : decode cX4_narrowBlock 305 = .ok (.iload 7, 2) := by decide +kernel
theorem dX4_narrowBlock_307 : decode cX4_narrowBlock 307 = .ok (.iconst (-1), 1) := by decide +kernel
theorem dX4_narrowBlock_308 : decode cX4_narrowBlock 308 = .ok (.ixor, 1) := by decide +kernel
theorem dX4_narrowBlock_309 : decode cX4_narrowBlock 309 = .ok (.iload 9, 2) := by decide +kernel
theorem dX4_narrowBlock_311 : decode cX4_narrowBlock 311 = .ok (.iand, 1) := by decide +kernel
theorem dX4_narrowBlock_312 : decode cX4_narrowBlock 312 = .ok (.ixor, 1) := by decide +kernel
theorem dX4_narrowBlock_313 : decode cX4_narrowBlock 313 = .ok (.iadd, 1) := by decide +kernel
theorem dX4_narrowBlock_314 : decode cX4_narrowBlock 314 = .ok (.aload_n 0, 1) := by decide +kernel
theorem dX4_narrowBlock_315 : decode cX4_narrowBlock 315 = .ok (.getfield 13, 3) := by decide +kernel
theorem dX4_narrowBlock_318 : decode cX4_narrowBlock 318 = .ok (.iload 11, 2) := by decide +kernel
theorem dX4_narrowBlock_320 : decode cX4_narrowBlock 320 = .ok (.laload, 1) := by decide +kernel
theorem dX4_narrowBlock_321 : decode cX4_narrowBlock 321 = .ok (.bipush 32, 2) := by decide +kernel
theorem dX4_narrowBlock_323 : decode cX4_narrowBlock 323 = .ok (.lushr, 1) := by decide +kernel
theorem dX4_narrowBlock_324 : decode cX4_narrowBlock 324 = .ok (.l2i, 1) := by decide +kernel
theorem dX4_narrowBlock_325 : decode cX4_narrowBlock 325 = .ok (.iadd, 1) := by decide +kernel
theorem dX4_narrowBlock_326 : decode cX4_narrowBlock 326 = .ok (.aload_n 0, 1) := by decide +kernel
theorem dX4_narrowBlock_327 : decode cX4_narrowBlock 327 = .ok (.getfield 75, 3) := by decide +kernel
theorem dX4_narrowBlock_330 : decode cX4_narrowBlock 330 = .ok (.iload 11, 2) := by decide +kernel
theorem dX4_narrowBlock_332 : decode cX4_narrowBlock 332 = .ok (.iaload, 1) := by decide +kernel
theorem dX4_narrowBlock_333 : decode cX4_narrowBlock 333 = .ok (.iadd, 1) := by decide +kernel
theorem dX4_narrowBlock_334 : decode cX4_narrowBlock 334 = .ok (.istore 12, 2) := by decide +kernel
theorem dX4_narrowBlock_336 : decode cX4_narrowBlock 336 = .ok (.iload_n 3, 1) := by decide +kernel
theorem dX4_narrowBlock_337 : decode cX4_narrowBlock 337 = .ok (.iconst 2, 1) := by decide +kernel
theorem dX4_narrowBlock_338 : decode cX4_narrowBlock 338 = .ok (.invokestatic 114, 3) := by decide +kernel
theorem dX4_narrowBlock_341 : decode cX4_narrowBlock 341 = .ok (.iload_n 3, 1) := by decide +kernel
theorem dX4_narrowBlock_342 : decode cX4_narrowBlock 342 = .ok (.bipush 13, 2) := by decide +kernel
theorem dX4_narrowBlock_344 : decode cX4_narrowBlock 344 = .ok (.invokestatic 114, 3) := by decide +kernel
theorem dX4_narrowBlock_347 : decode cX4_narrowBlock 347 = .ok (.ixor, 1) := by decide +kernel
theorem dX4_narrowBlock_348 : decode cX4_narrowBlock 348 = .ok (.iload_n 3, 1) := by decide +kernel
theorem dX4_narrowBlock_349 : decode cX4_narrowBlock 349 = .ok (.bipush 22, 2) := by decide +kernel
theorem dX4_narrowBlock_351 : decode cX4_narrowBlock 351 = .ok (.invokestatic 114, 3) := by decide +kernel
theorem dX4_narrowBlock_354 : decode cX4_narrowBlock 354 = .ok (.ixor, 1) := by decide +kernel
theorem dX4_narrowBlock_355 : decode cX4_narrowBlock 355 = .ok (.iload_n 3, 1) := by decide +kernel
theorem dX4_narrowBlock_356 : decode cX4_narrowBlock 356 = .ok (.iload 4, 2) := by decide +kernel
theorem dX4_narrowBlock_358 : decode cX4_narrowBlock 358 = .ok (.iand, 1) := by decide +kernel
theorem dX4_narrowBlock_359 : decode cX4_narrowBlock 359 = .ok (.iload_n 3, 1) := by decide +kernel
theorem dX4_narrowBlock_360 : decode cX4_narrowBlock 360 = .ok (.iload 5, 2) := by decide +kernel
theorem dX4_narrowBlock_362 : decode cX4_narrowBlock 362 = .ok (.iand, 1) := by decide +kernel
theorem dX4_narrowBlock_363 : decode cX4_narrowBlock 363 = .ok (.ixor, 1) := by decide +kernel
theorem dX4_narrowBlock_364 : decode cX4_narrowBlock 364 = .ok (.iload 4, 2) := by decide +kernel
theorem dX4_narrowBlock_366 : decode cX4_narrowBlock 366 = .ok (.iload 5, 2) := by decide +kernel
theorem dX4_narrowBlock_368 : decode cX4_narrowBlock 368 = .ok (.iand, 1) := by decide +kernel
theorem dX4_narrowBlock_369 : decode cX4_narrowBlock 369 = .ok (.ixor, 1) := by decide +kernel
theorem dX4_narrowBlock_370 : decode cX4_narrowBlock 370 = .ok (.iadd, 1) := by decide +kernel
theorem dX4_narrowBlock_371 : decode cX4_narrowBlock 371 = .ok (.istore 13, 2) := by decide +kernel
theorem dX4_narrowBlock_373 : decode cX4_narrowBlock 373 = .ok (.iload 9, 2) := by decide +kernel
theorem dX4_narrowBlock_375 : decode cX4_narrowBlock 375 = .ok (.istore 10, 2) := by decide +kernel
theorem dX4_narrowBlock_377 : decode cX4_narrowBlock 377 = .ok (.iload 8, 2) := by decide +kernel
theorem dX4_narrowBlock_379 : decode cX4_narrowBlock 379 = .ok (.istore 9, 2) := by decide +kernel
theorem dX4_narrowBlock_381 : decode cX4_narrowBlock 381 = .ok (.iload 7, 2) := by decide +kernel
theorem dX4_narrowBlock_383 : decode cX4_narrowBlock 383 = .ok (.istore 8, 2) := by decide +kernel
theorem dX4_narrowBlock_385 : decode cX4_narrowBlock 385 = .ok (.iload 6, 2) := by decide +kernel
theorem dX4_narrowBlock_387 : decode cX4_narrowBlock 387 = .ok (.iload 12, 2) := by decide +kernel
theorem dX4_narrowBlock_389 : decode cX4_narrowBlock 389 = .ok (.iadd, 1) := by decide +kernel
theorem dX4_narrowBlock_390 : decode cX4_narrowBlock 390 = .ok (.istore 7, 2) := by decide +kernel
theorem dX4_narrowBlock_392 : decode cX4_narrowBlock 392 = .ok (.iload 5, 2) := by decide +kernel
theorem dX4_narrowBlock_394 : decode cX4_narrowBlock 394 = .ok (.istore 6, 2) := by decide +kernel
theorem dX4_narrowBlock_396 : decode cX4_narrowBlock 396 = .ok (.iload 4, 2) := by decide +kernel
theorem dX4_narrowBlock_398 : decode cX4_narrowBlock 398 = .ok (.istore 5, 2) := by decide +kernel
theorem dX4_narrowBlock_400 : decode cX4_narrowBlock 400 = .ok (.iload_n 3, 1) := by decide +kernel
theorem dX4_narrowBlock_401 : decode cX4_narrowBlock 401 = .ok (.istore 4, 2) := by decide +kernel
theorem dX4_narrowBlock_403 : decode cX4_narrowBlock 403 = .ok (.iload 12, 2) := by decide +kernel
theorem dX4_narrowBlock_405 : decode cX4_narrowBlock 405 = .ok (.iload 13, 2) := by decide +kernel
theorem dX4_narrowBlock_407 : decode cX4_narrowBlock 407 = .ok (.iadd, 1) := by decide +kernel
theorem dX4_narrowBlock_408 : decode cX4_narrowBlock 408 = .ok (.istore_n 3, 1) := by decide +kernel
theorem dX4_narrowBlock_409 : decode cX4_narrowBlock 409 = .ok (.iinc 11 1, 3) := by decide +kernel
theorem dX4_narrowBlock_412 : decode cX4_narrowBlock 412 = .ok (.goto (-145), 3) := by decide +kernel
theorem dX4_narrowBlock_415 : decode cX4_narrowBlock 415 = .ok (.aload_n 0, 1) := by decide +kernel
theorem dX4_narrowBlock_416 : decode cX4_narrowBlock 416 = .ok (.getfield 23, 3) := by decide +kernel
theorem dX4_narrowBlock_419 : decode cX4_narrowBlock 419 = .ok (.iload_n 2, 1) := by decide +kernel
theorem dX4_narrowBlock_420 : decode cX4_narrowBlock 420 = .ok (.aload_n 0, 1) := by decide +kernel
theorem dX4_narrowBlock_421 : decode cX4_narrowBlock 421 = .ok (.getfield 23, 3) := by decide +kernel
theorem dX4_narrowBlock_424 : decode cX4_narrowBlock 424 = .ok (.iload_n 2, 1) := by decide +kernel
theorem dX4_narrowBlock_425 : decode cX4_narrowBlock 425 = .ok (.laload, 1) := by decide +kernel
theorem dX4_narrowBlock_426 : decode cX4_narrowBlock 426 = .ok (.iload_n 3, 1) := by decide +kernel
theorem dX4_narrowBlock_427 : decode cX4_narrowBlock 427 = .ok (.i2l, 1) := by decide +kernel
theorem dX4_narrowBlock_428 : decode cX4_narrowBlock 428 = .ok (.ladd, 1) := by decide +kernel
theorem dX4_narrowBlock_429 : decode cX4_narrowBlock 429 = .ok (.ldc2_w 112, 3) := by decide +kernel
theorem dX4_narrowBlock_432 : decode cX4_narrowBlock 432 = .ok (.land, 1) := by decide +kernel
theorem dX4_narrowBlock_433 : decode cX4_narrowBlock 433 = .ok (.lastore, 1) := by decide +kernel
theorem dX4_narrowBlock_434 : decode cX4_narrowBlock 434 = .ok (.aload_n 0, 1) := by decide +kernel
theorem dX4_narrowBlock_435 : decode cX4_narrowBlock 435 = .ok (.getfield 23, 3) := by decide +kernel
theorem dX4_narrowBlock_438 : decode cX4_narrowBlock 438 = .ok (.iload_n 2, 1) := by decide +kernel
theorem dX4_narrowBlock_439 : decode cX4_narrowBlock 439 = .ok (.iconst 1, 1) := by decide +kernel
theorem dX4_narrowBlock_440 : decode cX4_narrowBlock 440 = .ok (.iadd, 1) := by decide +kernel
theorem dX4_narrowBlock_441 : decode cX4_narrowBlock 441 = .ok (.aload_n 0, 1) := by decide +kernel
theorem dX4_narrowBlock_442 : decode cX4_narrowBlock 442 = .ok (.getfield 23, 3) := by decide +kernel
theorem dX4_narrowBlock_445 : decode cX4_narrowBlock 445 = .ok (.iload_n 2, 1) := by decide +kernel
theorem dX4_narrowBlock_446 : decode cX4_narrowBlock 446 = .ok (.iconst 1, 1) := by decide +kernel
theorem dX4_narrowBlock_447 : decode cX4_narrowBlock 447 = .ok (.iadd, 1) := by decide +kernel
theorem dX4_narrowBlock_448 : decode cX4_narrowBlock 448 = .ok (.laload, 1) := by decide +kernel
theorem dX4_narrowBlock_449 : decode cX4_narrowBlock 449 = .ok (.iload 4, 2) := by decide +kernel
theorem dX4_narrowBlock_451 : decode cX4_narrowBlock 451 = .ok (.i2l, 1) := by decide +kernel
theorem dX4_narrowBlock_452 : decode cX4_narrowBlock 452 = .ok (.ladd, 1) := by decide +kernel
theorem dX4_narrowBlock_453 : decode cX4_narrowBlock 453 = .ok (.ldc2_w 112, 3) := by decide +kernel
theorem dX4_narrowBlock_456 : decode cX4_narrowBlock 456 = .ok (.land, 1) := by decide +kernel
theorem dX4_narrowBlock_457 : decode cX4_narrowBlock 457 = .ok (.lastore, 1) := by decide +kernel
theorem dX4_narrowBlock_458 : decode cX4_narrowBlock 458 = .ok (.aload_n 0, 1) := by decide +kernel
theorem dX4_narrowBlock_459 : decode cX4_narrowBlock 459 = .ok (.getfield 23, 3) := by decide +kernel
theorem dX4_narrowBlock_462 : decode cX4_narrowBlock 462 = .ok (.iload_n 2, 1) := by decide +kernel
theorem dX4_narrowBlock_463 : decode cX4_narrowBlock 463 = .ok (.iconst 2, 1) := by decide +kernel
theorem dX4_narrowBlock_464 : decode cX4_narrowBlock 464 = .ok (.iadd, 1) := by decide +kernel
theorem dX4_narrowBlock_465 : decode cX4_narrowBlock 465 = .ok (.aload_n 0, 1) := by decide +kernel
theorem dX4_narrowBlock_466 : decode cX4_narrowBlock 466 = .ok (.getfield 23, 3) := by decide +kernel
theorem dX4_narrowBlock_469 : decode cX4_narrowBlock 469 = .ok (.iload_n 2, 1) := by decide +kernel
theorem dX4_narrowBlock_470 : decode cX4_narrowBlock 470 = .ok (.iconst 2, 1) := by decide +kernel
theorem dX4_narrowBlock_471 : decode cX4_narrowBlock 471 = .ok (.iadd, 1) := by decide +kernel
theorem dX4_narrowBlock_472 : decode cX4_narrowBlock 472 = .ok (.laload, 1) := by decide +kernel
theorem dX4_narrowBlock_473 : decode cX4_narrowBlock 473 = .ok (.iload 5, 2) := by decide +kernel
theorem dX4_narrowBlock_475 : decode cX4_narrowBlock 475 = .ok (.i2l, 1) := by decide +kernel
theorem dX4_narrowBlock_476 : decode cX4_narrowBlock 476 = .ok (.ladd, 1) := by decide +kernel
theorem dX4_narrowBlock_477 : decode cX4_narrowBlock 477 = .ok (.ldc2_w 112, 3) := by decide +kernel
theorem dX4_narrowBlock_480 : decode cX4_narrowBlock 480 = .ok (.land, 1) := by decide +kernel
theorem dX4_narrowBlock_481 : decode cX4_narrowBlock 481 = .ok (.lastore, 1) := by decide +kernel
theorem dX4_narrowBlock_482 : decode cX4_narrowBlock 482 = .ok (.aload_n 0, 1) := by decide +kernel
theorem dX4_narrowBlock_483 : decode cX4_narrowBlock 483 = .ok (.getfield 23, 3) := by decide +kernel
theorem dX4_narrowBlock_486 : decode cX4_narrowBlock 486 = .ok (.iload_n 2, 1) := by decide +kernel
theorem dX4_narrowBlock_487 : decode cX4_narrowBlock 487 = .ok (.iconst 3, 1) := by decide +kernel
theorem dX4_narrowBlock_488 : decode cX4_narrowBlock 488 = .ok (.iadd, 1) := by decide +kernel
theorem dX4_narrowBlock_489 : decode cX4_narrowBlock 489 = .ok (.aload_n 0, 1) := by decide +kernel
theorem dX4_narrowBlock_490 : decode cX4_narrowBlock 490 = .ok (.getfield 23, 3) := by decide +kernel
theorem dX4_narrowBlock_493 : decode cX4_narrowBlock 493 = .ok (.iload_n 2, 1) := by decide +kernel
theorem dX4_narrowBlock_494 : decode cX4_narrowBlock 494 = .ok (.iconst 3, 1) := by decide +kernel
theorem dX4_narrowBlock_495 : decode cX4_narrowBlock 495 = .ok (.iadd, 1) := by decide +kernel
theorem dX4_narrowBlock_496 : decode cX4_narrowBlock 496 = .ok (.laload, 1) := by decide +kernel
theorem dX4_narrowBlock_497 : decode cX4_narrowBlock 497 = .ok (.iload 6, 2) := by decide +kernel
theorem dX4_narrowBlock_499 : decode cX4_narrowBlock 499 = .ok (.i2l, 1) := by decide +kernel
theorem dX4_narrowBlock_500 : decode cX4_narrowBlock 500 = .ok (.ladd, 1) := by decide +kernel
theorem dX4_narrowBlock_501 : decode cX4_narrowBlock 501 = .ok (.ldc2_w 112, 3) := by decide +kernel
theorem dX4_narrowBlock_504 : decode cX4_narrowBlock 504 = .ok (.land, 1) := by decide +kernel
theorem dX4_narrowBlock_505 : decode cX4_narrowBlock 505 = .ok (.lastore, 1) := by decide +kernel
theorem dX4_narrowBlock_506 : decode cX4_narrowBlock 506 = .ok (.aload_n 0, 1) := by decide +kernel
theorem dX4_narrowBlock_507 : decode cX4_narrowBlock 507 = .ok (.getfield 23, 3) := by decide +kernel
theorem dX4_narrowBlock_510 : decode cX4_narrowBlock 510 = .ok (.iload_n 2, 1) := by decide +kernel
theorem dX4_narrowBlock_511 : decode cX4_narrowBlock 511 = .ok (.iconst 4, 1) := by decide +kernel
theorem dX4_narrowBlock_512 : decode cX4_narrowBlock 512 = .ok (.iadd, 1) := by decide +kernel
theorem dX4_narrowBlock_513 : decode cX4_narrowBlock 513 = .ok (.aload_n 0, 1) := by decide +kernel
theorem dX4_narrowBlock_514 : decode cX4_narrowBlock 514 = .ok (.getfield 23, 3) := by decide +kernel
theorem dX4_narrowBlock_517 : decode cX4_narrowBlock 517 = .ok (.iload_n 2, 1) := by decide +kernel
theorem dX4_narrowBlock_518 : decode cX4_narrowBlock 518 = .ok (.iconst 4, 1) := by decide +kernel
theorem dX4_narrowBlock_519 : decode cX4_narrowBlock 519 = .ok (.iadd, 1) := by decide +kernel
theorem dX4_narrowBlock_520 : decode cX4_narrowBlock 520 = .ok (.laload, 1) := by decide +kernel
theorem dX4_narrowBlock_521 : decode cX4_narrowBlock 521 = .ok (.iload 7, 2) := by decide +kernel
theorem dX4_narrowBlock_523 : decode cX4_narrowBlock 523 = .ok (.i2l, 1) := by decide +kernel
