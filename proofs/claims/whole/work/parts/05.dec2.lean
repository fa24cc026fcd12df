theorem dX10_init_0 : decode cX10_init 0 = .ok (.aload_n 0, 1) := by decide +kernel
theorem dX10_init_1 : decode cX10_init 1 = .ok (.invokespecial 1, 3) := by decide +kernel
theorem dX10_init_4 : decode cX10_init 4 = .ok (.aload_n 0, 1) := by decide +kernel
theorem dX10_init_5 : decode cX10_init 5 = .ok (.bipush 48, 2) := by decide +kernel
theorem dX10_init_7 : decode cX10_init 7 = .ok (.newarray .int, 2) := by decide +kernel
theorem dX10_init_9 : decode cX10_init 9 = .ok (.putfield 7, 3) := by decide +kernel
theorem dX10_init_12 : decode cX10_init 12 = .ok (.aload_n 0, 1) := by decide +kernel
theorem dX10_init_13 : decode cX10_init 13 = .ok (.bipush 48, 2) := by decide +kernel
theorem dX10_init_15 : decode cX10_init 15 = .ok (.newarray .boolean, 2) := by decide +kernel
theorem dX10_init_17 : decode cX10_init 17 = .ok (.putfield 13, 3) := by decide +kernel
theorem dX10_init_20 : decode cX10_init 20 = .ok (.aload_n 0, 1) := by decide +kernel
theorem dX10_init_21 : decode cX10_init 21 = .ok (.bipush 48, 2) := by decide +kernel
theorem dX10_init_23 : decode cX10_init 23 = .ok (.newarray .int, 2) := by decide +kernel
theorem dX10_init_25 : decode cX10_init 25 = .ok (.putfield 17, 3) := by decide +kernel
theorem dX10_init_28 : decode cX10_init 28 = .ok (.aload_n 0, 1) := by decide +kernel
theorem dX10_init_29 : decode cX10_init 29 = .ok (.bipush 12, 2) := by decide +kernel
theorem dX10_init_31 : decode cX10_init 31 = .ok (.newarray .boolean, 2) := by decide +kernel
theorem dX10_init_33 : decode cX10_init 33 = .ok (.putfield 20, 3) := by decide +kernel
theorem dX10_init_36 : decode cX10_init 36 = .ok (.aload_n 0, 1) := by decide +kernel
theorem dX10_init_37 : decode cX10_init 37 = .ok (.bipush 12, 2) := by decide +kernel
theorem dX10_init_39 : decode cX10_init 39 = .ok (.newarray .boolean, 2) := by decide +kernel
theorem dX10_init_41 : decode cX10_init 41 = .ok (.putfield 23, 3) := by decide +kernel
theorem dX10_init_44 : decode cX10_init 44 = .ok (.aload_n 0, 1) := by decide +kernel
theorem dX10_init_45 : decode cX10_init 45 = .ok (.bipush 12, 2) := by decide +kernel
theorem dX10_init_47 : decode cX10_init 47 = .ok (.newarray .int, 2) := by decide +kernel
theorem dX10_init_49 : decode cX10_init 49 = .ok (.putfield 26, 3) := by decide +kernel
theorem dX10_init_52 : decode cX10_init 52 = .ok (.aload_n 0, 1) := by decide +kernel
theorem dX10_init_53 : decode cX10_init 53 = .ok (.bipush 12, 2) := by decide +kernel
theorem dX10_init_55 : decode cX10_init 55 = .ok (.newarray .boolean, 2) := by decide +kernel
theorem dX10_init_57 : decode cX10_init 57 = .ok (.putfield 29, 3) := by decide +kernel
theorem dX10_init_60 : decode cX10_init 60 = .ok (.aload_n 0, 1) := by decide +kernel
theorem dX10_init_61 : decode cX10_init 61 = .ok (.bipush 12, 2) := by decide +kernel
theorem dX10_init_63 : decode cX10_init 63 = .ok (.newarray .int, 2) := by decide +kernel
theorem dX10_init_65 : decode cX10_init 65 = .ok (.putfield 32, 3) := by decide +kernel
theorem dX10_init_68 : decode cX10_init 68 = .ok (.aload_n 0, 1) := by decide +kernel
theorem dX10_init_69 : decode cX10_init 69 = .ok (.bipush 12, 2) := by decide +kernel
theorem dX10_init_71 : decode cX10_init 71 = .ok (.newarray .int, 2) := by decide +kernel
theorem dX10_init_73 : decode cX10_init 73 = .ok (.putfield 35, 3) := by decide +kernel
theorem dX10_init_76 : decode cX10_init 76 = .ok (.aload_n 0, 1) := by decide +kernel
theorem dX10_init_77 : decode cX10_init 77 = .ok (.bipush 12, 2) := by decide +kernel
theorem dX10_init_79 : decode cX10_init 79 = .ok (.newarray .int, 2) := by decide +kernel
theorem dX10_init_81 : decode cX10_init 81 = .ok (.putfield 38, 3) := by decide +kernel
theorem dX10_init_84 : decode cX10_init 84 = .ok (.aload_n 0, 1) := by decide +kernel
theorem dX10_init_85 : decode cX10_init 85 = .ok (.bipush 12, 2) := by decide +kernel
theorem dX10_init_87 : decode cX10_init 87 = .ok (.newarray .int, 2) := by decide +kernel
theorem dX10_init_89 : decode cX10_init 89 = .ok (.putfield 41, 3) := by decide +kernel
theorem dX10_init_92 : decode cX10_init 92 = .ok (.aload_n 0, 1) := by decide +kernel
theorem dX10_init_93 : decode cX10_init 93 = .ok (.bipush 12, 2) := by decide +kernel
theorem dX10_init_95 : decode cX10_init 95 = .ok (.newarray .int, 2) := by decide +kernel
theorem dX10_init_97 : decode cX10_init 97 = .ok (.putfield 44, 3) := by decide +kernel
theorem dX10_init_100 : decode cX10_init 100 = .ok (.aload_n 0, 1) := by decide +kernel
theorem dX10_init_101 : decode cX10_init 101 = .ok (.bipush 12, 2) := by decide +kernel
theorem dX10_init_103 : decode cX10_init 103 = .ok (.newarray .int, 2) := by decide +kernel
theorem dX10_init_105 : decode cX10_init 105 = .ok (.putfield 47, 3) := by decide +kernel
theorem dX10_init_108 : decode cX10_init 108 = .ok (.aload_n 0, 1) := by decide +kernel
theorem dX10_init_109 : decode cX10_init 109 = .ok (.bipush 12, 2) := by decide +kernel
theorem dX10_init_111 : decode cX10_init 111 = .ok (.newarray .int, 2) := by decide +kernel
theorem dX10_init_113 : decode cX10_init 113 = .ok (.putfield 50, 3) := by decide +kernel
theorem dX10_init_116 : decode cX10_init 116 = .ok (.aload_n 0, 1) := by decide +kernel
theorem dX10_init_117 : decode cX10_init 117 = .ok (.iconst 3, 1) := by decide +kernel
theorem dX10_init_118 : decode cX10_init 118 = .ok (.newarray .int, 2) := by decide +kernel
theorem dX10_init_120 : decode cX10_init 120 = .ok (.putfield 53, 3) := by decide +kernel
theorem dX10_init_123 : decode cX10_init 123 = .ok (.aload_n 0, 1) := by decide +kernel
theorem dX10_init_124 : decode cX10_init 124 = .ok (.iconst 3, 1) := by decide +kernel
theorem dX10_init_125 : decode cX10_init 125 = .ok (.newarray .int, 2) := by decide +kernel
theorem dX10_init_127 : decode cX10_init 127 = .ok (.putfield 56, 3) := by decide +kernel
theorem dX10_init_130 : decode cX10_init 130 = .ok (.aload_n 0, 1) := by decide +kernel
theorem dX10_init_131 : decode cX10_init 131 = .ok (.iconst 3, 1) := by decide +kernel
theorem dX10_init_132 : decode cX10_init 132 = .ok (.newarray .int, 2) := by decide +kernel
theorem dX10_init_134 : decode cX10_init 134 = .ok (.putfield 59, 3) := by decide +kernel
theorem dX10_init_137 : decode cX10_init 137 = .ok (.aload_n 0, 1) := by decide +kernel
theorem dX10_init_138 : decode cX10_init 138 = .ok (.bipush 8, 2) := by decide +kernel
theorem dX10_init_140 : decode cX10_init 140 = .ok (.newarray .int, 2) := by decide +kernel
theorem dX10_init_142 : decode cX10_init 142 = .ok (.putfield 62, 3) := by decide +kernel
theorem dX10_init_145 : decode cX10_init 145 = .ok (.aload_n 0, 1) := by decide +kernel
theorem dX10_init_146 : decode cX10_init 146 = .ok (.bipush 8, 2) := by decide +kernel
theorem dX10_init_148 : decode cX10_init 148 = .ok (.newarray .int, 2) := by decide +kernel
theorem dX10_init_150 : decode cX10_init 150 = .ok (.putfield 65, 3) := by decide +kernel
theorem dX10_init_153 : decode cX10_init 153 = .ok (.aload_n 0, 1) := by decide +kernel
theorem dX10_init_154 : decode cX10_init 154 = .ok (.bipush 8, 2) := by decide +kernel
theorem dX10_init_156 : decode cX10_init 156 = .ok (.newarray .int, 2) := by decide +kernel
theorem dX10_init_158 : decode cX10_init 158 = .ok (.putfield 68, 3) := by decide +kernel
theorem dX10_init_161 : decode cX10_init 161 = .ok (.aload_n 0, 1) := by decide +kernel
theorem dX10_init_162 : decode cX10_init 162 = .ok (.bipush 8, 2) := by decide +kernel
theorem dX10_init_164 : decode cX10_init 164 = .ok (.newarray .int, 2) := by decide +kernel
theorem dX10_init_166 : decode cX10_init 166 = .ok (.putfield 71, 3) := by decide +kernel
theorem dX10_init_169 : decode cX10_init 169 = .ok (.aload_n 0, 1) := by decide +kernel
theorem dX10_init_170 : decode cX10_init 170 = .ok (.bipush 8, 2) := by decide +kernel
theorem dX10_init_172 : decode cX10_init 172 = .ok (.newarray .int, 2) := by decide +kernel
theorem dX10_init_174 : decode cX10_init 174 = .ok (.putfield 74, 3) := by decide +kernel
theorem dX10_init_177 : decode cX10_init 177 = .ok (.aload_n 0, 1) := by decide +kernel
theorem dX10_init_178 : decode cX10_init 178 = .ok (.sipush 3600, 3) := by decide +kernel
theorem dX10_init_181 : decode cX10_init 181 = .ok (.newarray .int, 2) := by decide +kernel
theorem dX10_init_183 : decode cX10_init 183 = .ok (.putfield 77, 3) := by decide +kernel
theorem dX10_init_186 : decode cX10_init 186 = .ok (.iconst 0, 1) := by decide +kernel
theorem dX10_init_187 : decode cX10_init 187 = .ok (.istore_n 1, 1) := by decide +kernel
theorem dX10_init_188 : decode cX10_init 188 = .ok (.iload_n 1, 1) := by decide +kernel
theorem dX10_init_189 : decode cX10_init 189 = .ok (.bipush 48, 2) := by decide +kernel
theorem dX10_init_191 : decode cX10_init 191 = .ok (.if_icmp .ge 16, 3) := by decide +kernel
theorem dX10_init_194 : decode cX10_init 194 = .ok (.aload_n 0, 1) := by decide +kernel
theorem dX10_init_195 : decode cX10_init 195 = .ok (.getfield 17, 3) := by decide +kernel
theorem dX10_init_198 : decode cX10_init 198 = .ok (.iload_n 1, 1) := by decide +kernel
theorem dX10_init_199 : decode cX10_init 199 = .ok (.iconst (-1), 1) := by decide +kernel
theorem dX10_init_200 : decode cX10_init 200 = .ok (.iastore, 1) := by decide +kernel
theorem dX10_init_201 : decode cX10_init 201 = .ok (.iinc 1 1, 3) := by decide +kernel
theorem dX10_init_204 : decode cX10_init 204 = .ok (.goto (-16), 3) := by decide +kernel
theorem dX10_init_207 : decode cX10_init 207 = .ok (.iconst 0, 1) := by decide +kernel
theorem dX10_init_208 : decode cX10_init 208 = .ok (.istore_n 1, 1) := by decide +kernel
theorem dX10_init_209 : decode cX10_init 209 = .ok (.iload_n 1, 1) := by decide +kernel
theorem dX10_init_210 : decode cX10_init 210 = .ok (.bipush 12, 2) := by decide +kernel
theorem dX10_init_212 : decode cX10_init 212 = .ok (.if_icmp .ge 42, 3) := by decide +kernel
theorem dX10_init_215 : decode cX10_init 215 = .ok (.aload_n 0, 1) := by decide +kernel
theorem dX10_init_216 : decode cX10_init 216 = .ok (.getfield 26, 3) := by decide +kernel
theorem dX10_init_219 : decode cX10_init 219 = .ok (.iload_n 1, 1) := by decide +kernel
theorem dX10_init_220 : decode cX10_init 220 = .ok (.sipush (-1000), 3) := by decide +kernel
theorem dX10_init_223 : decode cX10_init 223 = .ok (.iastore, 1) := by decide +kernel
theorem dX10_init_224 : decode cX10_init 224 = .ok (.aload_n 0, 1) := by decide +kernel
theorem dX10_init_225 : decode cX10_init 225 = .ok (.getfield 38, 3) := by decide +kernel
theorem dX10_init_228 : decode cX10_init 228 = .ok (.iload_n 1, 1) := by decide +kernel
theorem dX10_init_229 : decode cX10_init 229 = .ok (.iconst (-1), 1) := by decide +kernel
theorem dX10_init_230 : decode cX10_init 230 = .ok (.iastore, 1) := by decide +kernel
theorem dX10_init_231 : decode cX10_init 231 = .ok (.aload_n 0, 1) := by decide +kernel
theorem dX10_init_232 : decode cX10_init 232 = .ok (.getfield 41, 3) := by decide +kernel
theorem dX10_init_235 : decode cX10_init 235 = .ok (.iload_n 1, 1) := by decide +kernel
theorem dX10_init_236 : decode cX10_init 236 = .ok (.bipush 120, 2) := by decide +kernel
theorem dX10_init_238 : decode cX10_init 238 = .ok (.iastore, 1) := by decide +kernel
theorem dX10_init_239 : decode cX10_init 239 = .ok (.aload_n 0, 1) := by decide +kernel
theorem dX10_init_240 : decode cX10_init 240 = .ok (.getfield 44, 3) := by decide +kernel
theorem dX10_init_243 : decode cX10_init 243 = .ok (.iload_n 1, 1) := by decide +kernel
theorem dX10_init_244 : decode cX10_init 244 = .ok (.sipush (-1000), 3) := by decide +kernel
theorem dX10_init_247 : decode cX10_init 247 = .ok (.iastore, 1) := by decide +kernel
theorem dX10_init_248 : decode cX10_init 248 = .ok (.iinc 1 1, 3) := by decide +kernel
theorem dX10_init_251 : decode cX10_init 251 = .ok (.goto (-42), 3) := by decide +kernel
theorem dX10_init_254 : decode cX10_init 254 = .ok (.iconst 0, 1) := by decide +kernel
theorem dX10_init_255 : decode cX10_init 255 = .ok (.istore_n 1, 1) := by decide +kernel
theorem dX10_init_256 : decode cX10_init 256 = .ok (.iload_n 1, 1) := by decide +kernel
theorem dX10_init_257 : decode cX10_init 257 = .ok (.iconst 3, 1) := by decide +kernel
theorem dX10_init_258 : decode cX10_init 258 = .ok (.if_icmp .ge 16, 3) := by decide +kernel
theorem dX10_init_261 : decode cX10_init 261 = .ok (.aload_n 0, 1) := by decide +kernel
theorem dX10_init_262 : decode cX10_init 262 = .ok (.getfield 56, 3) := by decide +kernel
theorem dX10_init_265 : decode cX10_init 265 = .ok (.iload_n 1, 1) := by decide +kernel
theorem dX10_init_266 : decode cX10_init 266 = .ok (.iconst (-1), 1) := by decide +kernel
theorem dX10_init_267 : decode cX10_init 267 = .ok (.iastore, 1) := by decide +kernel
theorem dX10_init_268 : decode cX10_init 268 = .ok (.iinc 1 1, 3) := by decide +kernel
theorem dX10_init_271 : decode cX10_init 271 = .ok (.goto (-15), 3) := by decide +kernel
theorem dX10_init_274 : decode cX10_init 274 = .ok (.aload_n 0, 1) := by decide +kernel
theorem dX10_init_275 : decode cX10_init 275 = .ok (.invokevirtual 80, 3) := by decide +kernel
theorem dX10_init_278 : decode cX10_init 278 = .ok (.return_, 1) := by decide +kernel
theorem dX10_thrown_0 : decode cX10_thrown 0 = .ok (.aload_n 0, 1) := by decide +kernel
theorem dX10_thrown_1 : decode cX10_thrown 1 = .ok (.getfield 83, 3) := by decide +kernel
theorem dX10_thrown_4 : decode cX10_thrown 4 = .ok (.ireturn, 1) := by decide +kernel
theorem dX10_holds_0 : decode cX10_holds 0 = .ok (.aload_n 0, 1) := by decide +kernel
theorem dX10_holds_1 : decode cX10_holds 1 = .ok (.iload_n 1, 1) := by decide +kernel
theorem dX10_holds_2 : decode cX10_holds 2 = .ok (.putfield 83, 3) := by decide +kernel
theorem dX10_holds_5 : decode cX10_holds 5 = .ok (.iload_n 1, 1) := by decide +kernel
theorem dX10_holds_6 : decode cX10_holds 6 = .ok (.ifCond .ne 7, 3) := by decide +kernel
theorem dX10_holds_9 : decode cX10_holds 9 = .ok (.iconst 1, 1) := by decide +kernel
theorem dX10_holds_10 : decode cX10_holds 10 = .ok (.goto 4, 3) := by decide +kernel
theorem dX10_holds_13 : decode cX10_holds 13 = .ok (.iconst 0, 1) := by decide +kernel
theorem dX10_holds_14 : decode cX10_holds 14 = .ok (.ireturn, 1) := by decide +kernel
theorem dX10_isIn_0 : decode cX10_isIn 0 = .ok (.iload_n 0, 1) := by decide +kernel
theorem dX10_isIn_1 : decode cX10_isIn 1 = .ok (.iload_n 1, 1) := by decide +kernel
theorem dX10_isIn_2 : decode cX10_isIn 2 = .ok (.if_icmp .lt 12, 3) := by decide +kernel
theorem dX10_isIn_5 : decode cX10_isIn 5 = .ok (.iload_n 0, 1) := by decide +kernel
theorem dX10_isIn_6 : decode cX10_isIn 6 = .ok (.iload_n 2, 1) := by decide +kernel
theorem dX10_isIn_7 : decode cX10_isIn 7 = .ok (.if_icmp .gt 7, 3) := by decide +kernel
theorem dX10_isIn_10 : decode cX10_isIn 10 = .ok (.iconst 1, 1) := by decide +kernel
theorem dX10_isIn_11 : decode cX10_isIn 11 = .ok (.goto 4, 3) := by decide +kernel
theorem dX10_isIn_14 : decode cX10_isIn 14 = .ok (.iconst 0, 1) := by decide +kernel
theorem dX10_isIn_15 : decode cX10_isIn 15 = .ok (.ireturn, 1) := by decide +kernel
theorem dX10_isSection_0 : decode cX10_isSection 0 = .ok (.iload_n 0, 1) := by decide +kernel
theorem dX10_isSection_1 : decode cX10_isSection 1 = .ok (.iconst 0, 1) := by decide +kernel
theorem dX10_isSection_2 : decode cX10_isSection 2 = .ok (.bipush 11, 2) := by decide +kernel
theorem dX10_isSection_4 : decode cX10_isSection 4 = .ok (.invokestatic 87, 3) := by decide +kernel
theorem dX10_isSection_7 : decode cX10_isSection 7 = .ok (.ireturn, 1) := by decide +kernel
theorem dX10_isPlace_0 : decode cX10_isPlace 0 = .ok (.iload_n 0, 1) := by decide +kernel
theorem dX10_isPlace_1 : decode cX10_isPlace 1 = .ok (.invokestatic 91, 3) := by decide +kernel
theorem dX10_isPlace_4 : decode cX10_isPlace 4 = .ok (.ifCond .eq 16, 3) := by decide +kernel
theorem dX10_isPlace_7 : decode cX10_isPlace 7 = .ok (.iload_n 1, 1) := by decide +kernel
theorem dX10_isPlace_8 : decode cX10_isPlace 8 = .ok (.iconst 0, 1) := by decide +kernel
theorem dX10_isPlace_9 : decode cX10_isPlace 9 = .ok (.iconst 3, 1) := by decide +kernel
theorem dX10_isPlace_10 : decode cX10_isPlace 10 = .ok (.invokestatic 87, 3) := by decide +kernel
theorem dX10_isPlace_13 : decode cX10_isPlace 13 = .ok (.ifCond .eq 7, 3) := by decide +kernel
theorem dX10_isPlace_16 : decode cX10_isPlace 16 = .ok (.iconst 1, 1) := by decide +kernel
theorem dX10_isPlace_17 : decode cX10_isPlace 17 = .ok (.goto 4, 3) := by decide +kernel
theorem dX10_isPlace_20 : decode cX10_isPlace 20 = .ok (.iconst 0, 1) := by decide +kernel
theorem dX10_isPlace_21 : decode cX10_isPlace 21 = .ok (.ireturn, 1) := by decide +kernel
theorem dX10_isOnNow_0 : decode cX10_isOnNow 0 = .ok (.aload_n 0, 1) := by decide +kernel
theorem dX10_isOnNow_1 : decode cX10_isOnNow 1 = .ok (.getfield 95, 3) := by decide +kernel
theorem dX10_isOnNow_4 : decode cX10_isOnNow 4 = .ok (.aload_n 0, 1) := by decide +kernel
theorem dX10_isOnNow_5 : decode cX10_isOnNow 5 = .ok (.getfield 71, 3) := by decide +kernel
theorem dX10_isOnNow_8 : decode cX10_isOnNow 8 = .ok (.iload_n 1, 1) := by decide +kernel
theorem dX10_isOnNow_9 : decode cX10_isOnNow 9 = .ok (.iaload, 1) := by decide +kernel
theorem dX10_isOnNow_10 : decode cX10_isOnNow 10 = .ok (.if_icmp .lt 20, 3) := by decide +kernel
theorem dX10_isOnNow_13 : decode cX10_isOnNow 13 = .ok (.aload_n 0, 1) := by decide +kernel
theorem dX10_isOnNow_14 : decode cX10_isOnNow 14 = .ok (.getfield 95, 3) := by decide +kernel
theorem dX10_isOnNow_17 : decode cX10_isOnNow 17 = .ok (.aload_n 0, 1) := by decide +kernel
theorem dX10_isOnNow_18 : decode cX10_isOnNow 18 = .ok (.getfield 74, 3) := by decide +kernel
theorem dX10_isOnNow_21 : decode cX10_isOnNow 21 = .ok (.iload_n 1, 1) := by decide +kernel
theorem dX10_isOnNow_22 : decode cX10_isOnNow 22 = .ok (.iaload, 1) := by decide +kernel
theorem dX10_isOnNow_23 : decode cX10_isOnNow 23 = .ok (.if_icmp .ge 7, 3) := by decide +kernel
theorem dX10_isOnNow_26 : decode cX10_isOnNow 26 = .ok (.iconst 1, 1) := by decide +kernel
theorem dX10_isOnNow_27 : decode cX10_isOnNow 27 = .ok (.goto 4, 3) := by decide +kernel
theorem dX10_isOnNow_30 : decode cX10_isOnNow 30 = .ok (.iconst 0, 1) := by decide +kernel
theorem dX10_isOnNow_31 : decode cX10_isOnNow 31 = .ok (.ireturn, 1) := by decide +kernel
theorem dX10_areWorksAt_0 : decode cX10_areWorksAt 0 = .ok (.iconst 0, 1) := by decide +kernel
theorem dX10_areWorksAt_1 : decode cX10_areWorksAt 1 = .ok (.istore_n 3, 1) := by decide +kernel
theorem dX10_areWorksAt_2 : decode cX10_areWorksAt 2 = .ok (.iconst 0, 1) := by decide +kernel
theorem dX10_areWorksAt_3 : decode cX10_areWorksAt 3 = .ok (.istore 4, 2) := by decide +kernel
theorem dX10_areWorksAt_5 : decode cX10_areWorksAt 5 = .ok (.iload 4, 2) := by decide +kernel
theorem dX10_areWorksAt_7 : decode cX10_areWorksAt 7 = .ok (.aload_n 0, 1) := by decide +kernel
theorem dX10_areWorksAt_8 : decode cX10_areWorksAt 8 = .ok (.getfield 98, 3) := by decide +kernel
theorem dX10_areWorksAt_11 : decode cX10_areWorksAt 11 = .ok (.if_icmp .ge 60, 3) := by decide +kernel
theorem dX10_areWorksAt_14 : decode cX10_areWorksAt 14 = .ok (.iload_n 3, 1) := by decide +kernel
theorem dX10_areWorksAt_15 : decode cX10_areWorksAt 15 = .ok (.ifCond .ne 44, 3) := by decide +kernel
theorem dX10_areWorksAt_18 : decode cX10_areWorksAt 18 = .ok (.aload_n 0, 1) := by decide +kernel
theorem dX10_areWorksAt_19 : decode cX10_areWorksAt 19 = .ok (.getfield 62, 3) := by decide +kernel
theorem dX10_areWorksAt_22 : decode cX10_areWorksAt 22 = .ok (.iload 4, 2) := by decide +kernel
theorem dX10_areWorksAt_24 : decode cX10_areWorksAt 24 = .ok (.iaload, 1) := by decide +kernel
theorem dX10_areWorksAt_25 : decode cX10_areWorksAt 25 = .ok (.iload_n 2, 1) := by decide +kernel
theorem dX10_areWorksAt_26 : decode cX10_areWorksAt 26 = .ok (.if_icmp .ne 37, 3) := by decide +kernel
theorem dX10_areWorksAt_29 : decode cX10_areWorksAt 29 = .ok (.iload_n 1, 1) := by decide +kernel
theorem dX10_areWorksAt_30 : decode cX10_areWorksAt 30 = .ok (.aload_n 0, 1) := by decide +kernel
theorem dX10_areWorksAt_31 : decode cX10_areWorksAt 31 = .ok (.getfield 65, 3) := by decide +kernel
theorem dX10_areWorksAt_34 : decode cX10_areWorksAt 34 = .ok (.iload 4, 2) := by decide +kernel
theorem dX10_areWorksAt_36 : decode cX10_areWorksAt 36 = .ok (.iaload, 1) := by decide +kernel
theorem dX10_areWorksAt_37 : decode cX10_areWorksAt 37 = .ok (.aload_n 0, 1) := by decide +kernel
theorem dX10_areWorksAt_38 : decode cX10_areWorksAt 38 = .ok (.getfield 68, 3) := by decide +kernel
theorem dX10_areWorksAt_41 : decode cX10_areWorksAt 41 = .ok (.iload 4, 2) := by decide +kernel
theorem dX10_areWorksAt_43 : decode cX10_areWorksAt 43 = .ok (.iaload, 1) := by decide +kernel
theorem dX10_areWorksAt_44 : decode cX10_areWorksAt 44 = .ok (.invokestatic 87, 3) := by decide +kernel
theorem dX10_areWorksAt_47 : decode cX10_areWorksAt 47 = .ok (.ifCond .eq 16, 3) := by decide +kernel
theorem dX10_areWorksAt_50 : decode cX10_areWorksAt 50 = .ok (.aload_n 0, 1) := by decide +kernel
theorem dX10_areWorksAt_51 : decode cX10_areWorksAt 51 = .ok (.iload 4, 2) := by decide +kernel
theorem dX10_areWorksAt_53 : decode cX10_areWorksAt 53 = .ok (.invokevirtual 101, 3) := by decide +kernel
theorem dX10_areWorksAt_56 : decode cX10_areWorksAt 56 = .ok (.ifCond .eq 7, 3) := by decide +kernel
theorem dX10_areWorksAt_59 : decode cX10_areWorksAt 59 = .ok (.iconst 1, 1) := by decide +kernel
theorem dX10_areWorksAt_60 : decode cX10_areWorksAt 60 = .ok (.goto 4, 3) := by decide +kernel
theorem dX10_areWorksAt_63 : decode cX10_areWorksAt 63 = .ok (.iconst 0, 1) := by decide +kernel
theorem dX10_areWorksAt_64 : decode cX10_areWorksAt 64 = .ok (.istore_n 3, 1) := by decide +kernel
theorem dX10_areWorksAt_65 : decode cX10_areWorksAt 65 = .ok (.iinc 4 1, 3) := by decide +kernel
theorem dX10_areWorksAt_68 : decode cX10_areWorksAt 68 = .ok (.goto (-63), 3) := by decide +kernel
theorem dX10_areWorksAt_71 : decode cX10_areWorksAt 71 = .ok (.iload_n 3, 1) := by decide +kernel
theorem dX10_areWorksAt_72 : decode cX10_areWorksAt 72 = .ok (.ireturn, 1) := by decide +kernel
theorem dX10_isConfirmedAt_0 : decode cX10_isConfirmedAt 0 = .ok (.iconst 0, 1) := by decide +kernel
theorem dX10_isConfirmedAt_1 : decode cX10_isConfirmedAt 1 = .ok (.istore_n 2, 1) := by decide +kernel
theorem dX10_isConfirmedAt_2 : decode cX10_isConfirmedAt 2 = .ok (.iconst 0, 1) := by decide +kernel
theorem dX10_isConfirmedAt_3 : decode cX10_isConfirmedAt 3 = .ok (.istore_n 3, 1) := by decide +kernel
theorem dX10_isConfirmedAt_4 : decode cX10_isConfirmedAt 4 = .ok (.iload_n 3, 1) := by decide +kernel
theorem dX10_isConfirmedAt_5 : decode cX10_isConfirmedAt 5 = .ok (.aload_n 0, 1) := by decide +kernel
theorem dX10_isConfirmedAt_6 : decode cX10_isConfirmedAt 6 = .ok (.getfield 104, 3) := by decide +kernel
theorem dX10_isConfirmedAt_9 : decode cX10_isConfirmedAt 9 = .ok (.if_icmp .ge 39, 3) := by decide +kernel
theorem dX10_isConfirmedAt_12 : decode cX10_isConfirmedAt 12 = .ok (.iload_n 2, 1) := by decide +kernel
theorem dX10_isConfirmedAt_13 : decode cX10_isConfirmedAt 13 = .ok (.ifCond .ne 23, 3) := by decide +kernel
theorem dX10_isConfirmedAt_16 : decode cX10_isConfirmedAt 16 = .ok (.aload_n 0, 1) := by decide +kernel
theorem dX10_isConfirmedAt_17 : decode cX10_isConfirmedAt 17 = .ok (.getfield 47, 3) := by decide +kernel
theorem dX10_isConfirmedAt_20 : decode cX10_isConfirmedAt 20 = .ok (.iload_n 3, 1) := by decide +kernel
theorem dX10_isConfirmedAt_21 : decode cX10_isConfirmedAt 21 = .ok (.iaload, 1) := by decide +kernel
theorem dX10_isConfirmedAt_22 : decode cX10_isConfirmedAt 22 = .ok (.iload_n 1, 1) := by decide +kernel
theorem dX10_isConfirmedAt_23 : decode cX10_isConfirmedAt 23 = .ok (.if_icmp .ne 17, 3) := by decide +kernel
theorem dX10_isConfirmedAt_26 : decode cX10_isConfirmedAt 26 = .ok (.aload_n 0, 1) := by decide +kernel
theorem dX10_isConfirmedAt_27 : decode cX10_isConfirmedAt 27 = .ok (.getfield 50, 3) := by decide +kernel
theorem dX10_isConfirmedAt_30 : decode cX10_isConfirmedAt 30 = .ok (.iload_n 3, 1) := by decide +kernel
theorem dX10_isConfirmedAt_31 : decode cX10_isConfirmedAt 31 = .ok (.iaload, 1) := by decide +kernel
theorem dX10_isConfirmedAt_32 : decode cX10_isConfirmedAt 32 = .ok (.iconst 1, 1) := by decide +kernel
theorem dX10_isConfirmedAt_33 : decode cX10_isConfirmedAt 33 = .ok (.if_icmp .ne 7, 3) := by decide +kernel
theorem dX10_isConfirmedAt_36 : decode cX10_isConfirmedAt 36 = .ok (.iconst 1, 1) := by decide +kernel
theorem dX10_isConfirmedAt_37 : decode cX10_isConfirmedAt 37 = .ok (.goto 4, 3) := by decide +kernel
theorem dX10_isConfirmedAt_40 : decode cX10_isConfirmedAt 40 = .ok (.iconst 0, 1) := by decide +kernel
theorem dX10_isConfirmedAt_41 : decode cX10_isConfirmedAt 41 = .ok (.istore_n 2, 1) := by decide +kernel
theorem dX10_isConfirmedAt_42 : decode cX10_isConfirmedAt 42 = .ok (.iinc 3 1, 3) := by decide +kernel
theorem dX10_isConfirmedAt_45 : decode cX10_isConfirmedAt 45 = .ok (.goto (-41), 3) := by decide +kernel
theorem dX10_isConfirmedAt_48 : decode cX10_isConfirmedAt 48 = .ok (.iload_n 2, 1) := by decide +kernel
theorem dX10_isConfirmedAt_49 : decode cX10_isConfirmedAt 49 = .ok (.ireturn, 1) := by decide +kernel
theorem dX10_told_0 : decode cX10_told 0 = .ok (.iconst 4, 1) := by decide +kernel
theorem dX10_told_1 : decode cX10_told 1 = .ok (.iload_n 1, 1) := by decide +kernel
theorem dX10_told_2 : decode cX10_told 2 = .ok (.imul, 1) := by decide +kernel
theorem dX10_told_3 : decode cX10_told 3 = .ok (.iload_n 2, 1) := by decide +kernel
theorem dX10_told_4 : decode cX10_told 4 = .ok (.iadd, 1) := by decide +kernel
theorem dX10_told_5 : decode cX10_told 5 = .ok (.istore_n 3, 1) := by decide +kernel
theorem dX10_told_6 : decode cX10_told 6 = .ok (.aload_n 0, 1) := by decide +kernel
theorem dX10_told_7 : decode cX10_told 7 = .ok (.getfield 17, 3) := by decide +kernel
theorem dX10_told_10 : decode cX10_told 10 = .ok (.iload_n 3, 1) := by decide +kernel
theorem dX10_told_11 : decode cX10_told 11 = .ok (.iaload, 1) := by decide +kernel
theorem dX10_told_12 : decode cX10_told 12 = .ok (.iconst (-1), 1) := by decide +kernel
theorem dX10_told_13 : decode cX10_told 13 = .ok (.if_icmp .eq 10, 3) := by decide +kernel
theorem dX10_told_16 : decode cX10_told 16 = .ok (.aload_n 0, 1) := by decide +kernel
theorem dX10_told_17 : decode cX10_told 17 = .ok (.getfield 17, 3) := by decide +kernel
theorem dX10_told_20 : decode cX10_told 20 = .ok (.iload_n 3, 1) := by decide +kernel
theorem dX10_told_21 : decode cX10_told 21 = .ok (.iaload, 1) := by decide +kernel
theorem dX10_told_22 : decode cX10_told 22 = .ok (.ireturn, 1) := by decide +kernel
theorem dX10_told_23 : decode cX10_told 23 = .ok (.aload_n 0, 1) := by decide +kernel
theorem dX10_told_24 : decode cX10_told 24 = .ok (.iload_n 1, 1) := by decide +kernel
theorem dX10_told_25 : decode cX10_told 25 = .ok (.iload_n 2, 1) := by decide +kernel
theorem dX10_told_26 : decode cX10_told 26 = .ok (.invokevirtual 107, 3) := by decide +kernel
theorem dX10_told_29 : decode cX10_told 29 = .ok (.ifCond .ne 24, 3) := by decide +kernel
theorem dX10_told_32 : decode cX10_told 32 = .ok (.aload_n 0, 1) := by decide +kernel
theorem dX10_told_33 : decode cX10_told 33 = .ok (.iload_n 3, 1) := by decide +kernel
theorem dX10_told_34 : decode cX10_told 34 = .ok (.invokevirtual 111, 3) := by decide +kernel
theorem dX10_told_37 : decode cX10_told 37 = .ok (.ifCond .ne 16, 3) := by decide +kernel
theorem dX10_told_40 : decode cX10_told 40 = .ok (.iload_n 2, 1) := by decide +kernel
theorem dX10_told_41 : decode cX10_told 41 = .ok (.ifCond .ne 16, 3) := by decide +kernel
theorem dX10_told_44 : decode cX10_told 44 = .ok (.aload_n 0, 1) := by decide +kernel
theorem dX10_told_45 : decode cX10_told 45 = .ok (.getfield 23, 3) := by decide +kernel
theorem dX10_told_48 : decode cX10_told 48 = .ok (.iload_n 1, 1) := by decide +kernel
theorem dX10_told_49 : decode cX10_told 49 = .ok (.baload, 1) := by decide +kernel
theorem dX10_told_50 : decode cX10_told 50 = .ok (.ifCond .ne 7, 3) := by decide +kernel
theorem dX10_told_53 : decode cX10_told 53 = .ok (.iconst 1, 1) := by decide +kernel
theorem dX10_told_54 : decode cX10_told 54 = .ok (.goto 4, 3) := by decide +kernel
theorem dX10_told_57 : decode cX10_told 57 = .ok (.iconst 0, 1) := by decide +kernel
theorem dX10_told_58 : decode cX10_told 58 = .ok (.istore 4, 2) := by decide +kernel
theorem dX10_told_60 : decode cX10_told 60 = .ok (.iload 4, 2) := by decide +kernel
theorem dX10_told_62 : decode cX10_told 62 = .ok (.ifCond .eq 7, 3) := by decide +kernel
theorem dX10_told_65 : decode cX10_told 65 = .ok (.iconst 2, 1) := by decide +kernel
theorem dX10_told_66 : decode cX10_told 66 = .ok (.goto 4, 3) := by decide +kernel
theorem dX10_told_69 : decode cX10_told 69 = .ok (.iconst 0, 1) := by decide +kernel
theorem dX10_told_70 : decode cX10_told 70 = .ok (.ireturn, 1) := by decide +kernel
theorem dX10_signOf_0 : decode cX10_signOf 0 = .ok (.aload_n 0, 1) := by decide +kernel
theorem dX10_signOf_1 : decode cX10_signOf 1 = .ok (.iload_n 1, 1) := by decide +kernel
theorem dX10_signOf_2 : decode cX10_signOf 2 = .ok (.iload_n 2, 1) := by decide +kernel
theorem dX10_signOf_3 : decode cX10_signOf 3 = .ok (.invokevirtual 114, 3) := by decide +kernel
theorem dX10_signOf_6 : decode cX10_signOf 6 = .ok (.istore_n 3, 1) := by decide +kernel
theorem dX10_signOf_7 : decode cX10_signOf 7 = .ok (.iload_n 3, 1) := by decide +kernel
theorem dX10_signOf_8 : decode cX10_signOf 8 = .ok (.ifCond .ne 25, 3) := by decide +kernel
theorem dX10_signOf_11 : decode cX10_signOf 11 = .ok (.iload_n 1, 1) := by decide +kernel
theorem dX10_signOf_12 : decode cX10_signOf 12 = .ok (.bipush 11, 2) := by decide +kernel
theorem dX10_signOf_14 : decode cX10_signOf 14 = .ok (.if_icmp .ge 19, 3) := by decide +kernel
theorem dX10_signOf_17 : decode cX10_signOf 17 = .ok (.aload_n 0, 1) := by decide +kernel
theorem dX10_signOf_18 : decode cX10_signOf 18 = .ok (.iload_n 1, 1) := by decide +kernel
theorem dX10_signOf_19 : decode cX10_signOf 19 = .ok (.iconst 1, 1) := by decide +kernel
theorem dX10_signOf_20 : decode cX10_signOf 20 = .ok (.iadd, 1) := by decide +kernel
theorem dX10_signOf_21 : decode cX10_signOf 21 = .ok (.iload_n 2, 1) := by decide +kernel
theorem dX10_signOf_22 : decode cX10_signOf 22 = .ok (.invokevirtual 114, 3) := by decide +kernel
theorem dX10_signOf_25 : decode cX10_signOf 25 = .ok (.iconst 2, 1) := by decide +kernel
theorem dX10_signOf_26 : decode cX10_signOf 26 = .ok (.if_icmp .ne 7, 3) := by decide +kernel
theorem dX10_signOf_29 : decode cX10_signOf 29 = .ok (.iconst 1, 1) := by decide +kernel
theorem dX10_signOf_30 : decode cX10_signOf 30 = .ok (.goto 4, 3) := by decide +kernel
theorem dX10_signOf_33 : decode cX10_signOf 33 = .ok (.iload_n 3, 1) := by decide +kernel
theorem dX10_signOf_34 : decode cX10_signOf 34 = .ok (.ireturn, 1) := by decide +kernel
theorem dX10_keeps_0 : decode cX10_keeps 0 = .ok (.bipush 60, 2) := by decide +kernel
theorem dX10_keeps_2 : decode cX10_keeps 2 = .ok (.aload_n 0, 1) := by decide +kernel
theorem dX10_keeps_3 : decode cX10_keeps 3 = .ok (.getfield 95, 3) := by decide +kernel
theorem dX10_keeps_6 : decode cX10_keeps 6 = .ok (.bipush 60, 2) := by decide +kernel
theorem dX10_keeps_8 : decode cX10_keeps 8 = .ok (.irem, 1) := by decide +kernel
theorem dX10_keeps_9 : decode cX10_keeps 9 = .ok (.imul, 1) := by decide +kernel
theorem dX10_keeps_10 : decode cX10_keeps 10 = .ok (.istore_n 1, 1) := by decide +kernel
theorem dX10_keeps_11 : decode cX10_keeps 11 = .ok (.iconst 0, 1) := by decide +kernel
theorem dX10_keeps_12 : decode cX10_keeps 12 = .ok (.istore_n 2, 1) := by decide +kernel
theorem dX10_keeps_13 : decode cX10_keeps 13 = .ok (.iload_n 2, 1) := by decide +kernel
theorem dX10_keeps_14 : decode cX10_keeps 14 = .ok (.bipush 12, 2) := by decide +kernel
theorem dX10_keeps_16 : decode cX10_keeps 16 = .ok (.if_icmp .ge 58, 3) := by decide +kernel
theorem dX10_keeps_19 : decode cX10_keeps 19 = .ok (.aload_n 0, 1) := by decide +kernel
theorem dX10_keeps_20 : decode cX10_keeps 20 = .ok (.getfield 77, 3) := by decide +kernel
theorem dX10_keeps_23 : decode cX10_keeps 23 = .ok (.iload_n 1, 1) := by decide +kernel
theorem dX10_keeps_24 : decode cX10_keeps 24 = .ok (.iconst 5, 1) := by decide +kernel
theorem dX10_keeps_25 : decode cX10_keeps 25 = .ok (.iload_n 2, 1) := by decide +kernel
theorem dX10_keeps_26 : decode cX10_keeps 26 = .ok (.imul, 1) := by decide +kernel
theorem dX10_keeps_27 : decode cX10_keeps 27 = .ok (.iadd, 1) := by decide +kernel
theorem dX10_keeps_28 : decode cX10_keeps 28 = .ok (.aload_n 0, 1) := by decide +kernel
theorem dX10_keeps_29 : decode cX10_keeps 29 = .ok (.getfield 41, 3) := by decide +kernel
theorem dX10_keeps_32 : decode cX10_keeps 32 = .ok (.iload_n 2, 1) := by decide +kernel
theorem dX10_keeps_33 : decode cX10_keeps 33 = .ok (.iaload, 1) := by decide +kernel
theorem dX10_keeps_34 : decode cX10_keeps 34 = .ok (.iastore, 1) := by decide +kernel
theorem dX10_keeps_35 : decode cX10_keeps 35 = .ok (.iconst 0, 1) := by decide +kernel
theorem dX10_keeps_36 : decode cX10_keeps 36 = .ok (.istore_n 3, 1) := by decide +kernel
theorem dX10_keeps_37 : decode cX10_keeps 37 = .ok (.iload_n 3, 1) := by decide +kernel
theorem dX10_keeps_38 : decode cX10_keeps 38 = .ok (.iconst 4, 1) := by decide +kernel
theorem dX10_keeps_39 : decode cX10_keeps 39 = .ok (.if_icmp .ge 29, 3) := by decide +kernel
theorem dX10_keeps_42 : decode cX10_keeps 42 = .ok (.aload_n 0, 1) := by decide +kernel
theorem dX10_keeps_43 : decode cX10_keeps 43 = .ok (.getfield 77, 3) := by decide +kernel
theorem dX10_keeps_46 : decode cX10_keeps 46 = .ok (.iload_n 1, 1) := by decide +kernel
theorem dX10_keeps_47 : decode cX10_keeps 47 = .ok (.iconst 5, 1) := by decide +kernel
theorem dX10_keeps_48 : decode cX10_keeps 48 = .ok (.iload_n 2, 1) := by decide +kernel
theorem dX10_keeps_49 : decode cX10_keeps 49 = .ok (.imul, 1) := by decide +kernel
theorem dX10_keeps_50 : decode cX10_keeps 50 = .ok (.iadd, 1) := by decide +kernel
theorem dX10_keeps_51 : decode cX10_keeps 51 = .ok (.iconst 1, 1) := by decide +kernel
theorem dX10_keeps_52 : decode cX10_keeps 52 = .ok (.iadd, 1) := by decide +kernel
theorem dX10_keeps_53 : decode cX10_keeps 53 = .ok (.iload_n 3, 1) := by decide +kernel
theorem dX10_keeps_54 : decode cX10_keeps 54 = .ok (.iadd, 1) := by decide +kernel
theorem dX10_keeps_55 : decode cX10_keeps 55 = .ok (.aload_n 0, 1) := by decide +kernel
theorem dX10_keeps_56 : decode cX10_keeps 56 = .ok (.iload_n 2, 1) := by decide +kernel
theorem dX10_keeps_57 : decode cX10_keeps 57 = .ok (.iload_n 3, 1) := by decide +kernel
theorem dX10_keeps_58 : decode cX10_keeps 58 = .ok (.invokevirtual 118, 3) := by decide +kernel
theorem dX10_keeps_61 : decode cX10_keeps 61 = .ok (.iastore, 1) := by decide +kernel
theorem dX10_keeps_62 : decode cX10_keeps 62 = .ok (.iinc 3 1, 3) := by decide +kernel
theorem dX10_keeps_65 : decode cX10_keeps 65 = .ok (.goto (-28), 3) := by decide +kernel
theorem dX10_keeps_68 : decode cX10_keeps 68 = .ok (.iinc 2 1, 3) := by decide +kernel
theorem dX10_keeps_71 : decode cX10_keeps 71 = .ok (.goto (-58), 3) := by decide +kernel
theorem dX10_keeps_74 : decode cX10_keeps 74 = .ok (.return_, 1) := by decide +kernel
theorem dX10_patrols_0 : decode cX10_patrols 0 = .ok (.iconst 0, 1) := by decide +kernel
theorem dX10_patrols_1 : decode cX10_patrols 1 = .ok (.istore_n 1, 1) := by decide +kernel
theorem dX10_patrols_2 : decode cX10_patrols 2 = .ok (.iload_n 1, 1) := by decide +kernel
theorem dX10_patrols_3 : decode cX10_patrols 3 = .ok (.iconst 3, 1) := by decide +kernel
theorem dX10_patrols_4 : decode cX10_patrols 4 = .ok (.if_icmp .ge 93, 3) := by decide +kernel
theorem dX10_patrols_7 : decode cX10_patrols 7 = .ok (.aload_n 0, 1) := by decide +kernel
theorem dX10_patrols_8 : decode cX10_patrols 8 = .ok (.getfield 56, 3) := by decide +kernel
theorem dX10_patrols_11 : decode cX10_patrols 11 = .ok (.iload_n 1, 1) := by decide +kernel
theorem dX10_patrols_12 : decode cX10_patrols 12 = .ok (.iaload, 1) := by decide +kernel
theorem dX10_patrols_13 : decode cX10_patrols 13 = .ok (.iconst (-1), 1) := by decide +kernel
theorem dX10_patrols_14 : decode cX10_patrols 14 = .ok (.if_icmp .eq 77, 3) := by decide +kernel
theorem dX10_patrols_17 : decode cX10_patrols 17 = .ok (.aload_n 0, 1) := by decide +kernel
theorem dX10_patrols_18 : decode cX10_patrols 18 = .ok (.getfield 59, 3) := by decide +kernel
theorem dX10_patrols_21 : decode cX10_patrols 21 = .ok (.iload_n 1, 1) := by decide +kernel
theorem dX10_patrols_22 : decode cX10_patrols 22 = .ok (.dup2, 1) := by decide +kernel
theorem dX10_patrols_23 : decode cX10_patrols 23 = .ok (.iaload, 1) := by decide +kernel
theorem dX10_patrols_24 : decode cX10_patrols 24 = .ok (.iconst 1, 1) := by decide +kernel
theorem dX10_patrols_25 : decode cX10_patrols 25 = .ok (.isub, 1) := by decide +kernel
theorem dX10_patrols_26 : decode cX10_patrols 26 = .ok (.iastore, 1) := by decide +kernel
theorem dX10_patrols_27 : decode cX10_patrols 27 = .ok (.aload_n 0, 1) := by decide +kernel
theorem dX10_patrols_28 : decode cX10_patrols 28 = .ok (.getfield 59, 3) := by decide +kernel
theorem dX10_patrols_31 : decode cX10_patrols 31 = .ok (.iload_n 1, 1) := by decide +kernel
theorem dX10_patrols_32 : decode cX10_patrols 32 = .ok (.iaload, 1) := by decide +kernel
theorem dX10_patrols_33 : decode cX10_patrols 33 = .ok (.ifCond .ne 58, 3) := by decide +kernel
theorem dX10_patrols_36 : decode cX10_patrols 36 = .ok (.aload_n 0, 1) := by decide +kernel
theorem dX10_patrols_37 : decode cX10_patrols 37 = .ok (.getfield 50, 3) := by decide +kernel
theorem dX10_patrols_40 : decode cX10_patrols 40 = .ok (.aload_n 0, 1) := by decide +kernel
theorem dX10_patrols_41 : decode cX10_patrols 41 = .ok (.getfield 56, 3) := by decide +kernel
theorem dX10_patrols_44 : decode cX10_patrols 44 = .ok (.iload_n 1, 1) := by decide +kernel
theorem dX10_patrols_45 : decode cX10_patrols 45 = .ok (.iaload, 1) := by decide +kernel
theorem dX10_patrols_46 : decode cX10_patrols 46 = .ok (.iconst 2, 1) := by decide +kernel
theorem dX10_patrols_47 : decode cX10_patrols 47 = .ok (.iastore, 1) := by decide +kernel
theorem dX10_patrols_48 : decode cX10_patrols 48 = .ok (.aload_n 0, 1) := by decide +kernel
theorem dX10_patrols_49 : decode cX10_patrols 49 = .ok (.getfield 13, 3) := by decide +kernel
theorem dX10_patrols_52 : decode cX10_patrols 52 = .ok (.aload_n 0, 1) := by decide +kernel
theorem dX10_patrols_53 : decode cX10_patrols 53 = .ok (.getfield 47, 3) := by decide +kernel
theorem dX10_patrols_56 : decode cX10_patrols 56 = .ok (.aload_n 0, 1) := by decide +kernel
theorem dX10_patrols_57 : decode cX10_patrols 57 = .ok (.getfield 56, 3) := by decide +kernel
theorem dX10_patrols_60 : decode cX10_patrols 60 = .ok (.iload_n 1, 1) := by decide +kernel
theorem dX10_patrols_61 : decode cX10_patrols 61 = .ok (.iaload, 1) := by decide +kernel
theorem dX10_patrols_62 : decode cX10_patrols 62 = .ok (.iaload, 1) := by decide +kernel
theorem dX10_patrols_63 : decode cX10_patrols 63 = .ok (.iconst 0, 1) := by decide +kernel
theorem dX10_patrols_64 : decode cX10_patrols 64 = .ok (.bastore, 1) := by decide +kernel
theorem dX10_patrols_65 : decode cX10_patrols 65 = .ok (.aload_n 0, 1) := by decide +kernel
theorem dX10_patrols_66 : decode cX10_patrols 66 = .ok (.getfield 53, 3) := by decide +kernel
theorem dX10_patrols_69 : decode cX10_patrols 69 = .ok (.iload_n 1, 1) := by decide +kernel
theorem dX10_patrols_70 : decode cX10_patrols 70 = .ok (.aload_n 0, 1) := by decide +kernel
theorem dX10_patrols_71 : decode cX10_patrols 71 = .ok (.getfield 47, 3) := by decide +kernel
theorem dX10_patrols_74 : decode cX10_patrols 74 = .ok (.aload_n 0, 1) := by decide +kernel
theorem dX10_patrols_75 : decode cX10_patrols 75 = .ok (.getfield 56, 3) := by decide +kernel
theorem dX10_patrols_78 : decode cX10_patrols 78 = .ok (.iload_n 1, 1) := by decide +kernel
theorem dX10_patrols_79 : decode cX10_patrols 79 = .ok (.iaload, 1) := by decide +kernel
theorem dX10_patrols_80 : decode cX10_patrols 80 = .ok (.iaload, 1) := by decide +kernel
theorem dX10_patrols_81 : decode cX10_patrols 81 = .ok (.iconst 4, 1) := by decide +kernel
theorem dX10_patrols_82 : decode cX10_patrols 82 = .ok (.idiv, 1) := by decide +kernel
theorem dX10_patrols_83 : decode cX10_patrols 83 = .ok (.iastore, 1) := by decide +kernel
theorem dX10_patrols_84 : decode cX10_patrols 84 = .ok (.aload_n 0, 1) := by decide +kernel
theorem dX10_patrols_85 : decode cX10_patrols 85 = .ok (.getfield 56, 3) := by decide +kernel
theorem dX10_patrols_88 : decode cX10_patrols 88 = .ok (.iload_n 1, 1) := by decide +kernel
theorem dX10_patrols_89 : decode cX10_patrols 89 = .ok (.iconst (-1), 1) := by decide +kernel
theorem dX10_patrols_90 : decode cX10_patrols 90 = .ok (.iastore, 1) := by decide +kernel
theorem dX10_patrols_91 : decode cX10_patrols 91 = .ok (.iinc 1 1, 3) := by decide +kernel
theorem dX10_patrols_94 : decode cX10_patrols 94 = .ok (.goto (-92), 3) := by decide +kernel
theorem dX10_patrols_97 : decode cX10_patrols 97 = .ok (.return_, 1) := by decide +kernel
theorem dX10_letsIn_0 : decode cX10_letsIn 0 = .ok (.iload_n 2, 1) := by decide +kernel
theorem dX10_letsIn_1 : decode cX10_letsIn 1 = .ok (.iconst 0, 1) := by decide +kernel
theorem dX10_letsIn_2 : decode cX10_letsIn 2 = .ok (.iconst 3, 1) := by decide +kernel
theorem dX10_letsIn_3 : decode cX10_letsIn 3 = .ok (.invokestatic 87, 3) := by decide +kernel
theorem dX10_letsIn_6 : decode cX10_letsIn 6 = .ok (.ifCond .eq 32, 3) := by decide +kernel
theorem dX10_letsIn_9 : decode cX10_letsIn 9 = .ok (.aload_n 0, 1) := by decide +kernel
theorem dX10_letsIn_10 : decode cX10_letsIn 10 = .ok (.iload_n 1, 1) := by decide +kernel
theorem dX10_letsIn_11 : decode cX10_letsIn 11 = .ok (.iload_n 2, 1) := by decide +kernel
theorem dX10_letsIn_12 : decode cX10_letsIn 12 = .ok (.invokevirtual 118, 3) := by decide +kernel
theorem dX10_letsIn_15 : decode cX10_letsIn 15 = .ok (.iconst 2, 1) := by decide +kernel
theorem dX10_letsIn_16 : decode cX10_letsIn 16 = .ok (.if_icmp .eq 22, 3) := by decide +kernel
theorem dX10_letsIn_19 : decode cX10_letsIn 19 = .ok (.aload_n 0, 1) := by decide +kernel
theorem dX10_letsIn_20 : decode cX10_letsIn 20 = .ok (.getfield 7, 3) := by decide +kernel
theorem dX10_letsIn_23 : decode cX10_letsIn 23 = .ok (.iconst 4, 1) := by decide +kernel
theorem dX10_letsIn_24 : decode cX10_letsIn 24 = .ok (.iload_n 1, 1) := by decide +kernel
theorem dX10_letsIn_25 : decode cX10_letsIn 25 = .ok (.imul, 1) := by decide +kernel
theorem dX10_letsIn_26 : decode cX10_letsIn 26 = .ok (.iload_n 2, 1) := by decide +kernel
theorem dX10_letsIn_27 : decode cX10_letsIn 27 = .ok (.iadd, 1) := by decide +kernel
theorem dX10_letsIn_28 : decode cX10_letsIn 28 = .ok (.iaload, 1) := by decide +kernel
theorem dX10_letsIn_29 : decode cX10_letsIn 29 = .ok (.bipush 20, 2) := by decide +kernel
theorem dX10_letsIn_31 : decode cX10_letsIn 31 = .ok (.if_icmp .ge 7, 3) := by decide +kernel
theorem dX10_letsIn_34 : decode cX10_letsIn 34 = .ok (.iconst 1, 1) := by decide +kernel
theorem dX10_letsIn_35 : decode cX10_letsIn 35 = .ok (.goto 4, 3) := by decide +kernel
theorem dX10_letsIn_38 : decode cX10_letsIn 38 = .ok (.iconst 0, 1) := by decide +kernel
theorem dX10_letsIn_39 : decode cX10_letsIn 39 = .ok (.ireturn, 1) := by decide +kernel
theorem dX10_goesTo_0 : decode cX10_goesTo 0 = .ok (.aload_n 0, 1) := by decide +kernel
theorem dX10_goesTo_1 : decode cX10_goesTo 1 = .ok (.iload_n 1, 1) := by decide +kernel
theorem dX10_goesTo_2 : decode cX10_goesTo 2 = .ok (.iload_n 2, 1) := by decide +kernel
theorem dX10_goesTo_3 : decode cX10_goesTo 3 = .ok (.invokevirtual 118, 3) := by decide +kernel
theorem dX10_goesTo_6 : decode cX10_goesTo 6 = .ok (.ifCond .ne 7, 3) := by decide +kernel
theorem dX10_goesTo_9 : decode cX10_goesTo 9 = .ok (.iconst 1, 1) := by decide +kernel
theorem dX10_goesTo_10 : decode cX10_goesTo 10 = .ok (.goto 4, 3) := by decide +kernel
theorem dX10_goesTo_13 : decode cX10_goesTo 13 = .ok (.iconst 0, 1) := by decide +kernel
theorem dX10_goesTo_14 : decode cX10_goesTo 14 = .ok (.istore_n 3, 1) := by decide +kernel
theorem dX10_goesTo_15 : decode cX10_goesTo 15 = .ok (.iload_n 1, 1) := by decide +kernel
theorem dX10_goesTo_16 : decode cX10_goesTo 16 = .ok (.iconst 1, 1) := by decide +kernel
theorem dX10_goesTo_17 : decode cX10_goesTo 17 = .ok (.iadd, 1) := by decide +kernel
theorem dX10_goesTo_18 : decode cX10_goesTo 18 = .ok (.istore 4, 2) := by decide +kernel
theorem dX10_goesTo_20 : decode cX10_goesTo 20 = .ok (.iload_n 3, 1) := by decide +kernel
theorem dX10_goesTo_21 : decode cX10_goesTo 21 = .ok (.ifCond .eq 15, 3) := by decide +kernel
theorem dX10_goesTo_24 : decode cX10_goesTo 24 = .ok (.aload_n 0, 1) := by decide +kernel
theorem dX10_goesTo_25 : decode cX10_goesTo 25 = .ok (.iload 4, 2) := by decide +kernel
theorem dX10_goesTo_27 : decode cX10_goesTo 27 = .ok (.iload_n 2, 1) := by decide +kernel
theorem dX10_goesTo_28 : decode cX10_goesTo 28 = .ok (.invokevirtual 121, 3) := by decide +kernel
theorem dX10_goesTo_31 : decode cX10_goesTo 31 = .ok (.ifCond .eq 5, 3) := by decide +kernel
theorem dX10_goesTo_34 : decode cX10_goesTo 34 = .ok (.iload_n 2, 1) := by decide +kernel
theorem dX10_goesTo_35 : decode cX10_goesTo 35 = .ok (.ireturn, 1) := by decide +kernel
theorem dX10_goesTo_36 : decode cX10_goesTo 36 = .ok (.aload_n 0, 1) := by decide +kernel
theorem dX10_goesTo_37 : decode cX10_goesTo 37 = .ok (.iload 4, 2) := by decide +kernel
theorem dX10_goesTo_39 : decode cX10_goesTo 39 = .ok (.iload_n 2, 1) := by decide +kernel
theorem dX10_goesTo_40 : decode cX10_goesTo 40 = .ok (.iconst 1, 1) := by decide +kernel
theorem dX10_goesTo_41 : decode cX10_goesTo 41 = .ok (.isub, 1) := by decide +kernel
theorem dX10_goesTo_42 : decode cX10_goesTo 42 = .ok (.invokevirtual 121, 3) := by decide +kernel
theorem dX10_goesTo_45 : decode cX10_goesTo 45 = .ok (.ifCond .eq 9, 3) := by decide +kernel
theorem dX10_goesTo_48 : decode cX10_goesTo 48 = .ok (.iload_n 2, 1) := by decide +kernel
theorem dX10_goesTo_49 : decode cX10_goesTo 49 = .ok (.iconst 1, 1) := by decide +kernel
theorem dX10_goesTo_50 : decode cX10_goesTo 50 = .ok (.isub, 1) := by decide +kernel
theorem dX10_goesTo_51 : decode cX10_goesTo 51 = .ok (.goto 40, 3) := by decide +kernel
theorem dX10_goesTo_54 : decode cX10_goesTo 54 = .ok (.aload_n 0, 1) := by decide +kernel
theorem dX10_goesTo_55 : decode cX10_goesTo 55 = .ok (.iload 4, 2) := by decide +kernel
theorem dX10_goesTo_57 : decode cX10_goesTo 57 = .ok (.iload_n 2, 1) := by decide +kernel
theorem dX10_goesTo_58 : decode cX10_goesTo 58 = .ok (.iconst 1, 1) := by decide +kernel
theorem dX10_goesTo_59 : decode cX10_goesTo 59 = .ok (.iadd, 1) := by decide +kernel
theorem dX10_goesTo_60 : decode cX10_goesTo 60 = .ok (.invokevirtual 121, 3) := by decide +kernel
theorem dX10_goesTo_63 : decode cX10_goesTo 63 = .ok (.ifCond .eq 9, 3) := by decide +kernel
theorem dX10_goesTo_66 : decode cX10_goesTo 66 = .ok (.iload_n 2, 1) := by decide +kernel
theorem dX10_goesTo_67 : decode cX10_goesTo 67 = .ok (.iconst 1, 1) := by decide +kernel
theorem dX10_goesTo_68 : decode cX10_goesTo 68 = .ok (.iadd, 1) := by decide +kernel
theorem dX10_goesTo_69 : decode cX10_goesTo 69 = .ok (.goto 22, 3) := by decide +kernel
theorem dX10_goesTo_72 : decode cX10_goesTo 72 = .ok (.iload_n 3, 1) := by decide +kernel
theorem dX10_goesTo_73 : decode cX10_goesTo 73 = .ok (.ifCond .ne 17, 3) := by decide +kernel
theorem dX10_goesTo_76 : decode cX10_goesTo 76 = .ok (.aload_n 0, 1) := by decide +kernel
theorem dX10_goesTo_77 : decode cX10_goesTo 77 = .ok (.iload 4, 2) := by decide +kernel
theorem dX10_goesTo_79 : decode cX10_goesTo 79 = .ok (.iload_n 2, 1) := by decide +kernel
theorem dX10_goesTo_80 : decode cX10_goesTo 80 = .ok (.invokevirtual 121, 3) := by decide +kernel
theorem dX10_goesTo_83 : decode cX10_goesTo 83 = .ok (.ifCond .eq 7, 3) := by decide +kernel
theorem dX10_goesTo_86 : decode cX10_goesTo 86 = .ok (.iload_n 2, 1) := by decide +kernel
theorem dX10_goesTo_87 : decode cX10_goesTo 87 = .ok (.goto 4, 3) := by decide +kernel
theorem dX10_goesTo_90 : decode cX10_goesTo 90 = .ok (.iconst (-1), 1) := by decide +kernel
theorem dX10_goesTo_91 : decode cX10_goesTo 91 = .ok (.ireturn, 1) := by decide +kernel
theorem dX10_goes_0 : decode cX10_goes 0 = .ok (.iconst 4, 1) := by decide +kernel
theorem dX10_goes_1 : decode cX10_goes 1 = .ok (.iload_n 1, 1) := by decide +kernel
theorem dX10_goes_2 : decode cX10_goes 2 = .ok (.imul, 1) := by decide +kernel
theorem dX10_goes_3 : decode cX10_goes 3 = .ok (.iload_n 2, 1) := by decide +kernel
theorem dX10_goes_4 : decode cX10_goes 4 = .ok (.iadd, 1) := by decide +kernel
theorem dX10_goes_5 : decode cX10_goes 5 = .ok (.istore_n 3, 1) := by decide +kernel
theorem dX10_goes_6 : decode cX10_goes 6 = .ok (.aload_n 0, 1) := by decide +kernel
theorem dX10_goes_7 : decode cX10_goes 7 = .ok (.getfield 13, 3) := by decide +kernel
theorem dX10_goes_10 : decode cX10_goes 10 = .ok (.iload_n 3, 1) := by decide +kernel
theorem dX10_goes_11 : decode cX10_goes 11 = .ok (.baload, 1) := by decide +kernel
theorem dX10_goes_12 : decode cX10_goes 12 = .ok (.ifCond .eq 7, 3) := by decide +kernel
theorem dX10_goes_15 : decode cX10_goes 15 = .ok (.iconst 0, 1) := by decide +kernel
theorem dX10_goes_16 : decode cX10_goes 16 = .ok (.goto 19, 3) := by decide +kernel
theorem dX10_goes_19 : decode cX10_goes 19 = .ok (.aload_n 0, 1) := by decide +kernel
theorem dX10_goes_20 : decode cX10_goes 20 = .ok (.getfield 20, 3) := by decide +kernel
theorem dX10_goes_23 : decode cX10_goes 23 = .ok (.iload_n 1, 1) := by decide +kernel
theorem dX10_goes_24 : decode cX10_goes 24 = .ok (.baload, 1) := by decide +kernel
theorem dX10_goes_25 : decode cX10_goes 25 = .ok (.ifCond .eq 8, 3) := by decide +kernel
theorem dX10_goes_28 : decode cX10_goes 28 = .ok (.bipush 6, 2) := by decide +kernel
theorem dX10_goes_30 : decode cX10_goes 30 = .ok (.goto 5, 3) := by decide +kernel
theorem dX10_goes_33 : decode cX10_goes 33 = .ok (.bipush 8, 2) := by decide +kernel
theorem dX10_goes_35 : decode cX10_goes 35 = .ok (.istore 4, 2) := by decide +kernel
theorem dX10_goes_37 : decode cX10_goes 37 = .ok (.iconst 1, 1) := by decide +kernel
theorem dX10_goes_38 : decode cX10_goes 38 = .ok (.istore 5, 2) := by decide +kernel
theorem dX10_goes_40 : decode cX10_goes 40 = .ok (.iconst 0, 1) := by decide +kernel
theorem dX10_goes_41 : decode cX10_goes 41 = .ok (.istore 6, 2) := by decide +kernel
theorem dX10_goes_43 : decode cX10_goes 43 = .ok (.iload 6, 2) := by decide +kernel
theorem dX10_goes_45 : decode cX10_goes 45 = .ok (.iload 4, 2) := by decide +kernel
theorem dX10_goes_47 : decode cX10_goes 47 = .ok (.if_icmp .ge 105, 3) := by decide +kernel
theorem dX10_goes_50 : decode cX10_goes 50 = .ok (.iload 5, 2) := by decide +kernel
theorem dX10_goes_52 : decode cX10_goes 52 = .ok (.ifCond .eq 100, 3) := by decide +kernel
theorem dX10_goes_55 : decode cX10_goes 55 = .ok (.aload_n 0, 1) := by decide +kernel
theorem dX10_goes_56 : decode cX10_goes 56 = .ok (.getfield 7, 3) := by decide +kernel
theorem dX10_goes_59 : decode cX10_goes 59 = .ok (.iload_n 3, 1) := by decide +kernel
theorem dX10_goes_60 : decode cX10_goes 60 = .ok (.iaload, 1) := by decide +kernel
theorem dX10_goes_61 : decode cX10_goes 61 = .ok (.ifCond .le 91, 3) := by decide +kernel
theorem dX10_goes_64 : decode cX10_goes 64 = .ok (.iload_n 1, 1) := by decide +kernel
theorem dX10_goes_65 : decode cX10_goes 65 = .ok (.bipush 11, 2) := by decide +kernel
theorem dX10_goes_67 : decode cX10_goes 67 = .ok (.if_icmp .ne 7, 3) := by decide +kernel
theorem dX10_goes_70 : decode cX10_goes 70 = .ok (.iload_n 2, 1) := by decide +kernel
theorem dX10_goes_71 : decode cX10_goes 71 = .ok (.goto 9, 3) := by decide +kernel
theorem dX10_goes_74 : decode cX10_goes 74 = .ok (.aload_n 0, 1) := by decide +kernel
theorem dX10_goes_75 : decode cX10_goes 75 = .ok (.iload_n 1, 1) := by decide +kernel
theorem dX10_goes_76 : decode cX10_goes 76 = .ok (.iload_n 2, 1) := by decide +kernel
theorem dX10_goes_77 : decode cX10_goes 77 = .ok (.invokevirtual 124, 3) := by decide +kernel
theorem dX10_goes_80 : decode cX10_goes 80 = .ok (.istore 7, 2) := by decide +kernel
theorem dX10_goes_82 : decode cX10_goes 82 = .ok (.iload 7, 2) := by decide +kernel
theorem dX10_goes_84 : decode cX10_goes 84 = .ok (.iconst (-1), 1) := by decide +kernel
theorem dX10_goes_85 : decode cX10_goes 85 = .ok (.if_icmp .eq 7, 3) := by decide +kernel
theorem dX10_goes_88 : decode cX10_goes 88 = .ok (.iconst 1, 1) := by decide +kernel
theorem dX10_goes_89 : decode cX10_goes 89 = .ok (.goto 4, 3) := by decide +kernel
theorem dX10_goes_92 : decode cX10_goes 92 = .ok (.iconst 0, 1) := by decide +kernel
theorem dX10_goes_93 : decode cX10_goes 93 = .ok (.istore 5, 2) := by decide +kernel
theorem dX10_goes_95 : decode cX10_goes 95 = .ok (.iload 5, 2) := by decide +kernel
theorem dX10_goes_97 : decode cX10_goes 97 = .ok (.ifCond .eq 49, 3) := by decide +kernel
theorem dX10_goes_100 : decode cX10_goes 100 = .ok (.aload_n 0, 1) := by decide +kernel
theorem dX10_goes_101 : decode cX10_goes 101 = .ok (.getfield 7, 3) := by decide +kernel
theorem dX10_goes_104 : decode cX10_goes 104 = .ok (.iload_n 3, 1) := by decide +kernel
theorem dX10_goes_105 : decode cX10_goes 105 = .ok (.dup2, 1) := by decide +kernel
theorem dX10_goes_106 : decode cX10_goes 106 = .ok (.iaload, 1) := by decide +kernel
theorem dX10_goes_107 : decode cX10_goes 107 = .ok (.iconst 1, 1) := by decide +kernel
theorem dX10_goes_108 : decode cX10_goes 108 = .ok (.isub, 1) := by decide +kernel
theorem dX10_goes_109 : decode cX10_goes 109 = .ok (.iastore, 1) := by decide +kernel
theorem dX10_goes_110 : decode cX10_goes 110 = .ok (.iload_n 1, 1) := by decide +kernel
theorem dX10_goes_111 : decode cX10_goes 111 = .ok (.bipush 11, 2) := by decide +kernel
theorem dX10_goes_113 : decode cX10_goes 113 = .ok (.if_icmp .ne 16, 3) := by decide +kernel
theorem dX10_goes_116 : decode cX10_goes 116 = .ok (.aload_n 0, 1) := by decide +kernel
theorem dX10_goes_117 : decode cX10_goes 117 = .ok (.dup, 1) := by decide +kernel
theorem dX10_goes_118 : decode cX10_goes 118 = .ok (.getfield 127, 3) := by decide +kernel
theorem dX10_goes_121 : decode cX10_goes 121 = .ok (.iconst 1, 1) := by decide +kernel
theorem dX10_goes_122 : decode cX10_goes 122 = .ok (.iadd, 1) := by decide +kernel
theorem dX10_goes_123 : decode cX10_goes 123 = .ok (.putfield 127, 3) := by decide +kernel
theorem dX10_goes_126 : decode cX10_goes 126 = .ok (.goto 20, 3) := by decide +kernel
theorem dX10_goes_129 : decode cX10_goes 129 = .ok (.aload_n 0, 1) := by decide +kernel
theorem dX10_goes_130 : decode cX10_goes 130 = .ok (.getfield 7, 3) := by decide +kernel
theorem dX10_goes_133 : decode cX10_goes 133 = .ok (.iconst 4, 1) := by decide +kernel
theorem dX10_goes_134 : decode cX10_goes 134 = .ok (.iload_n 1, 1) := by decide +kernel
theorem dX10_goes_135 : decode cX10_goes 135 = .ok (.imul, 1) := by decide +kernel
theorem dX10_goes_136 : decode cX10_goes 136 = .ok (.iconst 4, 1) := by decide +kernel
theorem dX10_goes_137 : decode cX10_goes 137 = .ok (.iadd, 1) := by decide +kernel
theorem dX10_goes_138 : decode cX10_goes 138 = .ok (.iload 7, 2) := by decide +kernel
theorem dX10_goes_140 : decode cX10_goes 140 = .ok (.iadd, 1) := by decide +kernel
theorem dX10_goes_141 : decode cX10_goes 141 = .ok (.dup2, 1) := by decide +kernel
theorem dX10_goes_142 : decode cX10_goes 142 = .ok (.iaload, 1) := by decide +kernel
theorem dX10_goes_143 : decode cX10_goes 143 = .ok (.iconst 1, 1) := by decide +kernel
theorem dX10_goes_144 : decode cX10_goes 144 = .ok (.iadd, 1) := by decide +kernel
theorem dX10_goes_145 : decode cX10_goes 145 = .ok (.iastore, 1) := by decide +kernel
theorem dX10_goes_146 : decode cX10_goes 146 = .ok (.iinc 6 1, 3) := by decide +kernel
theorem dX10_goes_149 : decode cX10_goes 149 = .ok (.goto (-106), 3) := by decide +kernel
theorem dX10_goes_152 : decode cX10_goes 152 = .ok (.return_, 1) := by decide +kernel
theorem dX10_comes_0 : decode cX10_comes 0 = .ok (.aload_n 0, 1) := by decide +kernel
theorem dX10_comes_1 : decode cX10_comes 1 = .ok (.dup, 1) := by decide +kernel
theorem dX10_comes_2 : decode cX10_comes 2 = .ok (.getfield 130, 3) := by decide +kernel
theorem dX10_comes_5 : decode cX10_comes 5 = .ok (.aload_n 0, 1) := by decide +kernel
theorem dX10_comes_6 : decode cX10_comes 6 = .ok (.getfield 133, 3) := by decide +kernel
theorem dX10_comes_9 : decode cX10_comes 9 = .ok (.iadd, 1) := by decide +kernel
theorem dX10_comes_10 : decode cX10_comes 10 = .ok (.putfield 130, 3) := by decide +kernel
theorem dX10_comes_13 : decode cX10_comes 13 = .ok (.aload_n 0, 1) := by decide +kernel
theorem dX10_comes_14 : decode cX10_comes 14 = .ok (.dup, 1) := by decide +kernel
theorem dX10_comes_15 : decode cX10_comes 15 = .ok (.getfield 136, 3) := by decide +kernel
theorem dX10_comes_18 : decode cX10_comes 18 = .ok (.aload_n 0, 1) := by decide +kernel
theorem dX10_comes_19 : decode cX10_comes 19 = .ok (.getfield 133, 3) := by decide +kernel
theorem dX10_comes_22 : decode cX10_comes 22 = .ok (.iadd, 1) := by decide +kernel
theorem dX10_comes_23 : decode cX10_comes 23 = .ok (.putfield 136, 3) := by decide +kernel
theorem dX10_comes_26 : decode cX10_comes 26 = .ok (.iconst 1, 1) := by decide +kernel
theorem dX10_comes_27 : decode cX10_comes 27 = .ok (.istore_n 1, 1) := by decide +kernel
theorem dX10_comes_28 : decode cX10_comes 28 = .ok (.aload_n 0, 1) := by decide +kernel
theorem dX10_comes_29 : decode cX10_comes 29 = .ok (.getfield 136, 3) := by decide +kernel
theorem dX10_comes_32 : decode cX10_comes 32 = .ok (.ifCond .le 95, 3) := by decide +kernel
theorem dX10_comes_35 : decode cX10_comes 35 = .ok (.iload_n 1, 1) := by decide +kernel
theorem dX10_comes_36 : decode cX10_comes 36 = .ok (.ifCond .eq 91, 3) := by decide +kernel
theorem dX10_comes_39 : decode cX10_comes 39 = .ok (.iconst (-1), 1) := by decide +kernel
theorem dX10_comes_40 : decode cX10_comes 40 = .ok (.istore_n 2, 1) := by decide +kernel
theorem dX10_comes_41 : decode cX10_comes 41 = .ok (.iconst 0, 1) := by decide +kernel
theorem dX10_comes_42 : decode cX10_comes 42 = .ok (.istore_n 3, 1) := by decide +kernel
theorem dX10_comes_43 : decode cX10_comes 43 = .ok (.iload_n 3, 1) := by decide +kernel
theorem dX10_comes_44 : decode cX10_comes 44 = .ok (.iconst 4, 1) := by decide +kernel
theorem dX10_comes_45 : decode cX10_comes 45 = .ok (.if_icmp .ge 44, 3) := by decide +kernel
theorem dX10_comes_48 : decode cX10_comes 48 = .ok (.aload_n 0, 1) := by decide +kernel
theorem dX10_comes_49 : decode cX10_comes 49 = .ok (.iconst 0, 1) := by decide +kernel
theorem dX10_comes_50 : decode cX10_comes 50 = .ok (.iload_n 3, 1) := by decide +kernel
theorem dX10_comes_51 : decode cX10_comes 51 = .ok (.invokevirtual 121, 3) := by decide +kernel
theorem dX10_comes_54 : decode cX10_comes 54 = .ok (.ifCond .eq 27, 3) := by decide +kernel
theorem dX10_comes_57 : decode cX10_comes 57 = .ok (.iload_n 2, 1) := by decide +kernel
theorem dX10_comes_58 : decode cX10_comes 58 = .ok (.iconst (-1), 1) := by decide +kernel
theorem dX10_comes_59 : decode cX10_comes 59 = .ok (.if_icmp .eq 18, 3) := by decide +kernel
theorem dX10_comes_62 : decode cX10_comes 62 = .ok (.aload_n 0, 1) := by decide +kernel
theorem dX10_comes_63 : decode cX10_comes 63 = .ok (.getfield 7, 3) := by decide +kernel
theorem dX10_comes_66 : decode cX10_comes 66 = .ok (.iload_n 3, 1) := by decide +kernel
theorem dX10_comes_67 : decode cX10_comes 67 = .ok (.iaload, 1) := by decide +kernel
theorem dX10_comes_68 : decode cX10_comes 68 = .ok (.aload_n 0, 1) := by decide +kernel
theorem dX10_comes_69 : decode cX10_comes 69 = .ok (.getfield 7, 3) := by decide +kernel
theorem dX10_comes_72 : decode cX10_comes 72 = .ok (.iload_n 2, 1) := by decide +kernel
theorem dX10_comes_73 : decode cX10_comes 73 = .ok (.iaload, 1) := by decide +kernel
theorem dX10_comes_74 : decode cX10_comes 74 = .ok (.if_icmp .ge 7, 3) := by decide +kernel
theorem dX10_comes_77 : decode cX10_comes 77 = .ok (.iload_n 3, 1) := by decide +kernel
theorem dX10_comes_78 : decode cX10_comes 78 = .ok (.goto 4, 3) := by decide +kernel
theorem dX10_comes_81 : decode cX10_comes 81 = .ok (.iload_n 2, 1) := by decide +kernel
theorem dX10_comes_82 : decode cX10_comes 82 = .ok (.istore_n 2, 1) := by decide +kernel
theorem dX10_comes_83 : decode cX10_comes 83 = .ok (.iinc 3 1, 3) := by decide +kernel
theorem dX10_comes_86 : decode cX10_comes 86 = .ok (.goto (-43), 3) := by decide +kernel
theorem dX10_comes_89 : decode cX10_comes 89 = .ok (.iload_n 2, 1) := by decide +kernel
theorem dX10_comes_90 : decode cX10_comes 90 = .ok (.iconst (-1), 1) := by decide +kernel
theorem dX10_comes_91 : decode cX10_comes 91 = .ok (.if_icmp .eq 7, 3) := by decide +kernel
theorem dX10_comes_94 : decode cX10_comes 94 = .ok (.iconst 1, 1) := by decide +kernel
theorem dX10_comes_95 : decode cX10_comes 95 = .ok (.goto 4, 3) := by decide +kernel
theorem dX10_comes_98 : decode cX10_comes 98 = .ok (.iconst 0, 1) := by decide +kernel
theorem dX10_comes_99 : decode cX10_comes 99 = .ok (.istore_n 1, 1) := by decide +kernel
theorem dX10_comes_100 : decode cX10_comes 100 = .ok (.iload_n 1, 1) := by decide +kernel
theorem dX10_comes_101 : decode cX10_comes 101 = .ok (.ifCond .eq 23, 3) := by decide +kernel
theorem dX10_comes_104 : decode cX10_comes 104 = .ok (.aload_n 0, 1) := by decide +kernel
theorem dX10_comes_105 : decode cX10_comes 105 = .ok (.getfield 7, 3) := by decide +kernel
theorem dX10_comes_108 : decode cX10_comes 108 = .ok (.iload_n 2, 1) := by decide +kernel
theorem dX10_comes_109 : decode cX10_comes 109 = .ok (.dup2, 1) := by decide +kernel
theorem dX10_comes_110 : decode cX10_comes 110 = .ok (.iaload, 1) := by decide +kernel
theorem dX10_comes_111 : decode cX10_comes 111 = .ok (.iconst 1, 1) := by decide +kernel
theorem dX10_comes_112 : decode cX10_comes 112 = .ok (.iadd, 1) := by decide +kernel
theorem dX10_comes_113 : decode cX10_comes 113 = .ok (.iastore, 1) := by decide +kernel
theorem dX10_comes_114 : decode cX10_comes 114 = .ok (.aload_n 0, 1) := by decide +kernel
theorem dX10_comes_115 : decode cX10_comes 115 = .ok (.dup, 1) := by decide +kernel
theorem dX10_comes_116 : decode cX10_comes 116 = .ok (.getfield 136, 3) := by decide +kernel
theorem dX10_comes_119 : decode cX10_comes 119 = .ok (.iconst 1, 1) := by decide +kernel
theorem dX10_comes_120 : decode cX10_comes 120 = .ok (.isub, 1) := by decide +kernel
theorem dX10_comes_121 : decode cX10_comes 121 = .ok (.putfield 136, 3) := by decide +kernel
theorem dX10_comes_124 : decode cX10_comes 124 = .ok (.goto (-96), 3) := by decide +kernel
theorem dX10_comes_127 : decode cX10_comes 127 = .ok (.return_, 1) := by decide +kernel
theorem dX10_mostOf_0 : decode cX10_mostOf 0 = .ok (.iconst 0, 1) := by decide +kernel
theorem dX10_mostOf_1 : decode cX10_mostOf 1 = .ok (.istore_n 2, 1) := by decide +kernel
theorem dX10_mostOf_2 : decode cX10_mostOf 2 = .ok (.iconst 0, 1) := by decide +kernel
theorem dX10_mostOf_3 : decode cX10_mostOf 3 = .ok (.istore_n 3, 1) := by decide +kernel
theorem dX10_mostOf_4 : decode cX10_mostOf 4 = .ok (.iload_n 3, 1) := by decide +kernel
theorem dX10_mostOf_5 : decode cX10_mostOf 5 = .ok (.iconst 4, 1) := by decide +kernel
theorem dX10_mostOf_6 : decode cX10_mostOf 6 = .ok (.if_icmp .ge 34, 3) := by decide +kernel
theorem dX10_mostOf_9 : decode cX10_mostOf 9 = .ok (.aload_n 0, 1) := by decide +kernel
theorem dX10_mostOf_10 : decode cX10_mostOf 10 = .ok (.getfield 7, 3) := by decide +kernel
theorem dX10_mostOf_13 : decode cX10_mostOf 13 = .ok (.iconst 4, 1) := by decide +kernel
theorem dX10_mostOf_14 : decode cX10_mostOf 14 = .ok (.iload_n 1, 1) := by decide +kernel
theorem dX10_mostOf_15 : decode cX10_mostOf 15 = .ok (.imul, 1) := by decide +kernel
theorem dX10_mostOf_16 : decode cX10_mostOf 16 = .ok (.iload_n 3, 1) := by decide +kernel
theorem dX10_mostOf_17 : decode cX10_mostOf 17 = .ok (.iadd, 1) := by decide +kernel
theorem dX10_mostOf_18 : decode cX10_mostOf 18 = .ok (.iaload, 1) := by decide +kernel
theorem dX10_mostOf_19 : decode cX10_mostOf 19 = .ok (.istore 4, 2) := by decide +kernel
theorem dX10_mostOf_21 : decode cX10_mostOf 21 = .ok (.iload 4, 2) := by decide +kernel
theorem dX10_mostOf_23 : decode cX10_mostOf 23 = .ok (.iload_n 2, 1) := by decide +kernel
theorem dX10_mostOf_24 : decode cX10_mostOf 24 = .ok (.if_icmp .le 8, 3) := by decide +kernel
theorem dX10_mostOf_27 : decode cX10_mostOf 27 = .ok (.iload 4, 2) := by decide +kernel
theorem dX10_mostOf_29 : decode cX10_mostOf 29 = .ok (.goto 4, 3) := by decide +kernel
theorem dX10_mostOf_32 : decode cX10_mostOf 32 = .ok (.iload_n 2, 1) := by decide +kernel
theorem dX10_mostOf_33 : decode cX10_mostOf 33 = .ok (.istore_n 2, 1) := by decide +kernel
theorem dX10_mostOf_34 : decode cX10_mostOf 34 = .ok (.iinc 3 1, 3) := by decide +kernel
theorem dX10_mostOf_37 : decode cX10_mostOf 37 = .ok (.goto (-33), 3) := by decide +kernel
theorem dX10_mostOf_40 : decode cX10_mostOf 40 = .ok (.iload_n 2, 1) := by decide +kernel
theorem dX10_mostOf_41 : decode cX10_mostOf 41 = .ok (.ireturn, 1) := by decide +kernel
theorem dX10_speedOf_0 : decode cX10_speedOf 0 = .ok (.bipush 120, 2) := by decide +kernel
theorem dX10_speedOf_2 : decode cX10_speedOf 2 = .ok (.iconst 5, 1) := by decide +kernel
theorem dX10_speedOf_3 : decode cX10_speedOf 3 = .ok (.aload_n 0, 1) := by decide +kernel
theorem dX10_speedOf_4 : decode cX10_speedOf 4 = .ok (.iload_n 1, 1) := by decide +kernel
theorem dX10_speedOf_5 : decode cX10_speedOf 5 = .ok (.invokevirtual 139, 3) := by decide +kernel
theorem dX10_speedOf_8 : decode cX10_speedOf 8 = .ok (.imul, 1) := by decide +kernel
theorem dX10_speedOf_9 : decode cX10_speedOf 9 = .ok (.isub, 1) := by decide +kernel
theorem dX10_speedOf_10 : decode cX10_speedOf 10 = .ok (.ireturn, 1) := by decide +kernel
theorem dX10_guessOf_0 : decode cX10_guessOf 0 = .ok (.iload_n 1, 1) := by decide +kernel
theorem dX10_guessOf_1 : decode cX10_guessOf 1 = .ok (.ifCond .le 18, 3) := by decide +kernel
theorem dX10_guessOf_4 : decode cX10_guessOf 4 = .ok (.aload_n 0, 1) := by decide +kernel
theorem dX10_guessOf_5 : decode cX10_guessOf 5 = .ok (.getfield 32, 3) := by decide +kernel
theorem dX10_guessOf_8 : decode cX10_guessOf 8 = .ok (.iload_n 1, 1) := by decide +kernel
theorem dX10_guessOf_9 : decode cX10_guessOf 9 = .ok (.iconst 1, 1) := by decide +kernel
theorem dX10_guessOf_10 : decode cX10_guessOf 10 = .ok (.isub, 1) := by decide +kernel
theorem dX10_guessOf_11 : decode cX10_guessOf 11 = .ok (.iaload, 1) := by decide +kernel
theorem dX10_guessOf_12 : decode cX10_guessOf 12 = .ok (.ifCond .ne 7, 3) := by decide +kernel
theorem dX10_guessOf_15 : decode cX10_guessOf 15 = .ok (.iconst 1, 1) := by decide +kernel
theorem dX10_guessOf_16 : decode cX10_guessOf 16 = .ok (.goto 4, 3) := by decide +kernel
theorem dX10_guessOf_19 : decode cX10_guessOf 19 = .ok (.iconst 0, 1) := by decide +kernel
theorem dX10_guessOf_20 : decode cX10_guessOf 20 = .ok (.istore_n 2, 1) := by decide +kernel
theorem dX10_guessOf_21 : decode cX10_guessOf 21 = .ok (.iload_n 1, 1) := by decide +kernel
theorem dX10_guessOf_22 : decode cX10_guessOf 22 = .ok (.bipush 11, 2) := by decide +kernel
theorem dX10_guessOf_24 : decode cX10_guessOf 24 = .ok (.if_icmp .ge 18, 3) := by decide +kernel
theorem dX10_guessOf_27 : decode cX10_guessOf 27 = .ok (.aload_n 0, 1) := by decide +kernel
theorem dX10_guessOf_28 : decode cX10_guessOf 28 = .ok (.getfield 32, 3) := by decide +kernel
theorem dX10_guessOf_31 : decode cX10_guessOf 31 = .ok (.iload_n 1, 1) := by decide +kernel
theorem dX10_guessOf_32 : decode cX10_guessOf 32 = .ok (.iconst 1, 1) := by decide +kernel
theorem dX10_guessOf_33 : decode cX10_guessOf 33 = .ok (.iadd, 1) := by decide +kernel
theorem dX10_guessOf_34 : decode cX10_guessOf 34 = .ok (.iaload, 1) := by decide +kernel
theorem dX10_guessOf_35 : decode cX10_guessOf 35 = .ok (.ifCond .ne 7, 3) := by decide +kernel
theorem dX10_guessOf_38 : decode cX10_guessOf 38 = .ok (.iconst 1, 1) := by decide +kernel
theorem dX10_guessOf_39 : decode cX10_guessOf 39 = .ok (.goto 4, 3) := by decide +kernel
theorem dX10_guessOf_42 : decode cX10_guessOf 42 = .ok (.iconst 0, 1) := by decide +kernel
theorem dX10_guessOf_43 : decode cX10_guessOf 43 = .ok (.istore_n 3, 1) := by decide +kernel
theorem dX10_guessOf_44 : decode cX10_guessOf 44 = .ok (.iload_n 2, 1) := by decide +kernel
theorem dX10_guessOf_45 : decode cX10_guessOf 45 = .ok (.ifCond .ne 9, 3) := by decide +kernel
theorem dX10_guessOf_48 : decode cX10_guessOf 48 = .ok (.iload_n 3, 1) := by decide +kernel
theorem dX10_guessOf_49 : decode cX10_guessOf 49 = .ok (.ifCond .ne 5, 3) := by decide +kernel
theorem dX10_guessOf_52 : decode cX10_guessOf 52 = .ok (.iconst (-1), 1) := by decide +kernel
theorem dX10_guessOf_53 : decode cX10_guessOf 53 = .ok (.ireturn, 1) := by decide +kernel
theorem dX10_guessOf_54 : decode cX10_guessOf 54 = .ok (.iload_n 2, 1) := by decide +kernel
theorem dX10_guessOf_55 : decode cX10_guessOf 55 = .ok (.ifCond .eq 13, 3) := by decide +kernel
theorem dX10_guessOf_58 : decode cX10_guessOf 58 = .ok (.aload_n 0, 1) := by decide +kernel
theorem dX10_guessOf_59 : decode cX10_guessOf 59 = .ok (.iload_n 1, 1) := by decide +kernel
theorem dX10_guessOf_60 : decode cX10_guessOf 60 = .ok (.iconst 1, 1) := by decide +kernel
theorem dX10_guessOf_61 : decode cX10_guessOf 61 = .ok (.isub, 1) := by decide +kernel
theorem dX10_guessOf_62 : decode cX10_guessOf 62 = .ok (.invokevirtual 143, 3) := by decide +kernel
theorem dX10_guessOf_65 : decode cX10_guessOf 65 = .ok (.goto 4, 3) := by decide +kernel
theorem dX10_guessOf_68 : decode cX10_guessOf 68 = .ok (.iconst 0, 1) := by decide +kernel
theorem dX10_guessOf_69 : decode cX10_guessOf 69 = .ok (.iload_n 3, 1) := by decide +kernel
theorem dX10_guessOf_70 : decode cX10_guessOf 70 = .ok (.ifCond .eq 13, 3) := by decide +kernel
theorem dX10_guessOf_73 : decode cX10_guessOf 73 = .ok (.aload_n 0, 1) := by decide +kernel
theorem dX10_guessOf_74 : decode cX10_guessOf 74 = .ok (.iload_n 1, 1) := by decide +kernel
theorem dX10_guessOf_75 : decode cX10_guessOf 75 = .ok (.iconst 1, 1) := by decide +kernel
theorem dX10_guessOf_76 : decode cX10_guessOf 76 = .ok (.iadd, 1) := by decide +kernel
theorem dX10_guessOf_77 : decode cX10_guessOf 77 = .ok (.invokevirtual 143, 3) := by decide +kernel
theorem dX10_guessOf_80 : decode cX10_guessOf 80 = .ok (.goto 4, 3) := by decide +kernel
theorem dX10_guessOf_83 : decode cX10_guessOf 83 = .ok (.iconst 0, 1) := by decide +kernel
theorem dX10_guessOf_84 : decode cX10_guessOf 84 = .ok (.iadd, 1) := by decide +kernel
theorem dX10_guessOf_85 : decode cX10_guessOf 85 = .ok (.istore 4, 2) := by decide +kernel
theorem dX10_guessOf_87 : decode cX10_guessOf 87 = .ok (.iload_n 2, 1) := by decide +kernel
theorem dX10_guessOf_88 : decode cX10_guessOf 88 = .ok (.ifCond .eq 14, 3) := by decide +kernel
theorem dX10_guessOf_91 : decode cX10_guessOf 91 = .ok (.iload_n 3, 1) := by decide +kernel
theorem dX10_guessOf_92 : decode cX10_guessOf 92 = .ok (.ifCond .eq 10, 3) := by decide +kernel
theorem dX10_guessOf_95 : decode cX10_guessOf 95 = .ok (.iload 4, 2) := by decide +kernel
theorem dX10_guessOf_97 : decode cX10_guessOf 97 = .ok (.iconst 2, 1) := by decide +kernel
theorem dX10_guessOf_98 : decode cX10_guessOf 98 = .ok (.idiv, 1) := by decide +kernel
theorem dX10_guessOf_99 : decode cX10_guessOf 99 = .ok (.goto 5, 3) := by decide +kernel
theorem dX10_guessOf_102 : decode cX10_guessOf 102 = .ok (.iload 4, 2) := by decide +kernel
theorem dX10_guessOf_104 : decode cX10_guessOf 104 = .ok (.ireturn, 1) := by decide +kernel
theorem dX10_beliefOf_0 : decode cX10_beliefOf 0 = .ok (.aload_n 0, 1) := by decide +kernel
theorem dX10_beliefOf_1 : decode cX10_beliefOf 1 = .ok (.getfield 32, 3) := by decide +kernel
theorem dX10_beliefOf_4 : decode cX10_beliefOf 4 = .ok (.iload_n 1, 1) := by decide +kernel
theorem dX10_beliefOf_5 : decode cX10_beliefOf 5 = .ok (.iaload, 1) := by decide +kernel
theorem dX10_beliefOf_6 : decode cX10_beliefOf 6 = .ok (.ifCond .ne 9, 3) := by decide +kernel
theorem dX10_beliefOf_9 : decode cX10_beliefOf 9 = .ok (.aload_n 0, 1) := by decide +kernel
theorem dX10_beliefOf_10 : decode cX10_beliefOf 10 = .ok (.iload_n 1, 1) := by decide +kernel
theorem dX10_beliefOf_11 : decode cX10_beliefOf 11 = .ok (.invokevirtual 143, 3) := by decide +kernel
theorem dX10_beliefOf_14 : decode cX10_beliefOf 14 = .ok (.ireturn, 1) := by decide +kernel
theorem dX10_beliefOf_15 : decode cX10_beliefOf 15 = .ok (.aload_n 0, 1) := by decide +kernel
theorem dX10_beliefOf_16 : decode cX10_beliefOf 16 = .ok (.iload_n 1, 1) := by decide +kernel
theorem dX10_beliefOf_17 : decode cX10_beliefOf 17 = .ok (.invokevirtual 146, 3) := by decide +kernel
theorem dX10_beliefOf_20 : decode cX10_beliefOf 20 = .ok (.istore_n 2, 1) := by decide +kernel
theorem dX10_beliefOf_21 : decode cX10_beliefOf 21 = .ok (.aload_n 0, 1) := by decide +kernel
theorem dX10_beliefOf_22 : decode cX10_beliefOf 22 = .ok (.getfield 32, 3) := by decide +kernel
theorem dX10_beliefOf_25 : decode cX10_beliefOf 25 = .ok (.iload_n 1, 1) := by decide +kernel
theorem dX10_beliefOf_26 : decode cX10_beliefOf 26 = .ok (.iaload, 1) := by decide +kernel
theorem dX10_beliefOf_27 : decode cX10_beliefOf 27 = .ok (.iconst 2, 1) := by decide +kernel
theorem dX10_beliefOf_28 : decode cX10_beliefOf 28 = .ok (.if_icmp .ne 5, 3) := by decide +kernel
theorem dX10_beliefOf_31 : decode cX10_beliefOf 31 = .ok (.iload_n 2, 1) := by decide +kernel
theorem dX10_beliefOf_32 : decode cX10_beliefOf 32 = .ok (.ireturn, 1) := by decide +kernel
theorem dX10_beliefOf_33 : decode cX10_beliefOf 33 = .ok (.iload_n 2, 1) := by decide +kernel
theorem dX10_beliefOf_34 : decode cX10_beliefOf 34 = .ok (.aload_n 0, 1) := by decide +kernel
theorem dX10_beliefOf_35 : decode cX10_beliefOf 35 = .ok (.getfield 35, 3) := by decide +kernel
theorem dX10_beliefOf_38 : decode cX10_beliefOf 38 = .ok (.iload_n 1, 1) := by decide +kernel
theorem dX10_beliefOf_39 : decode cX10_beliefOf 39 = .ok (.iaload, 1) := by decide +kernel
theorem dX10_beliefOf_40 : decode cX10_beliefOf 40 = .ok (.if_icmp .ge 14, 3) := by decide +kernel
theorem dX10_beliefOf_43 : decode cX10_beliefOf 43 = .ok (.aload_n 0, 1) := by decide +kernel
theorem dX10_beliefOf_44 : decode cX10_beliefOf 44 = .ok (.getfield 35, 3) := by decide +kernel
theorem dX10_beliefOf_47 : decode cX10_beliefOf 47 = .ok (.iload_n 1, 1) := by decide +kernel
theorem dX10_beliefOf_48 : decode cX10_beliefOf 48 = .ok (.iaload, 1) := by decide +kernel
theorem dX10_beliefOf_49 : decode cX10_beliefOf 49 = .ok (.iload_n 2, 1) := by decide +kernel
theorem dX10_beliefOf_50 : decode cX10_beliefOf 50 = .ok (.isub, 1) := by decide +kernel
theorem dX10_beliefOf_51 : decode cX10_beliefOf 51 = .ok (.goto 11, 3) := by decide +kernel
theorem dX10_beliefOf_54 : decode cX10_beliefOf 54 = .ok (.iload_n 2, 1) := by decide +kernel
theorem dX10_beliefOf_55 : decode cX10_beliefOf 55 = .ok (.aload_n 0, 1) := by decide +kernel
theorem dX10_beliefOf_56 : decode cX10_beliefOf 56 = .ok (.getfield 35, 3) := by decide +kernel
theorem dX10_beliefOf_59 : decode cX10_beliefOf 59 = .ok (.iload_n 1, 1) := by decide +kernel
theorem dX10_beliefOf_60 : decode cX10_beliefOf 60 = .ok (.iaload, 1) := by decide +kernel
theorem dX10_beliefOf_61 : decode cX10_beliefOf 61 = .ok (.isub, 1) := by decide +kernel
theorem dX10_beliefOf_62 : decode cX10_beliefOf 62 = .ok (.istore_n 3, 1) := by decide +kernel
theorem dX10_beliefOf_63 : decode cX10_beliefOf 63 = .ok (.iload_n 2, 1) := by decide +kernel
theorem dX10_beliefOf_64 : decode cX10_beliefOf 64 = .ok (.iconst (-1), 1) := by decide +kernel
theorem dX10_beliefOf_65 : decode cX10_beliefOf 65 = .ok (.if_icmp .eq 13, 3) := by decide +kernel
theorem dX10_beliefOf_68 : decode cX10_beliefOf 68 = .ok (.iload_n 3, 1) := by decide +kernel
theorem dX10_beliefOf_69 : decode cX10_beliefOf 69 = .ok (.bipush 30, 2) := by decide +kernel
theorem dX10_beliefOf_71 : decode cX10_beliefOf 71 = .ok (.if_icmp .le 7, 3) := by decide +kernel
theorem dX10_beliefOf_74 : decode cX10_beliefOf 74 = .ok (.iload_n 2, 1) := by decide +kernel
theorem dX10_beliefOf_75 : decode cX10_beliefOf 75 = .ok (.goto 9, 3) := by decide +kernel
theorem dX10_beliefOf_78 : decode cX10_beliefOf 78 = .ok (.aload_n 0, 1) := by decide +kernel
theorem dX10_beliefOf_79 : decode cX10_beliefOf 79 = .ok (.getfield 35, 3) := by decide +kernel
theorem dX10_beliefOf_82 : decode cX10_beliefOf 82 = .ok (.iload_n 1, 1) := by decide +kernel
theorem dX10_beliefOf_83 : decode cX10_beliefOf 83 = .ok (.iaload, 1) := by decide +kernel
theorem dX10_beliefOf_84 : decode cX10_beliefOf 84 = .ok (.ireturn, 1) := by decide +kernel
theorem dX10_wantOf_0 : decode cX10_wantOf 0 = .ok (.aload_n 0, 1) := by decide +kernel
theorem dX10_wantOf_1 : decode cX10_wantOf 1 = .ok (.getfield 38, 3) := by decide +kernel
theorem dX10_wantOf_4 : decode cX10_wantOf 4 = .ok (.iload_n 1, 1) := by decide +kernel
theorem dX10_wantOf_5 : decode cX10_wantOf 5 = .ok (.iaload, 1) := by decide +kernel
theorem dX10_wantOf_6 : decode cX10_wantOf 6 = .ok (.iconst (-1), 1) := by decide +kernel
theorem dX10_wantOf_7 : decode cX10_wantOf 7 = .ok (.if_icmp .eq 10, 3) := by decide +kernel
theorem dX10_wantOf_10 : decode cX10_wantOf 10 = .ok (.aload_n 0, 1) := by decide +kernel
theorem dX10_wantOf_11 : decode cX10_wantOf 11 = .ok (.getfield 38, 3) := by decide +kernel
theorem dX10_wantOf_14 : decode cX10_wantOf 14 = .ok (.iload_n 1, 1) := by decide +kernel
theorem dX10_wantOf_15 : decode cX10_wantOf 15 = .ok (.iaload, 1) := by decide +kernel
theorem dX10_wantOf_16 : decode cX10_wantOf 16 = .ok (.ireturn, 1) := by decide +kernel
theorem dX10_wantOf_17 : decode cX10_wantOf 17 = .ok (.aload_n 0, 1) := by decide +kernel
theorem dX10_wantOf_18 : decode cX10_wantOf 18 = .ok (.iload_n 1, 1) := by decide +kernel
theorem dX10_wantOf_19 : decode cX10_wantOf 19 = .ok (.invokevirtual 149, 3) := by decide +kernel
theorem dX10_wantOf_22 : decode cX10_wantOf 22 = .ok (.istore_n 2, 1) := by decide +kernel
theorem dX10_wantOf_23 : decode cX10_wantOf 23 = .ok (.iload_n 2, 1) := by decide +kernel
theorem dX10_wantOf_24 : decode cX10_wantOf 24 = .ok (.iconst (-1), 1) := by decide +kernel
theorem dX10_wantOf_25 : decode cX10_wantOf 25 = .ok (.if_icmp .ne 8, 3) := by decide +kernel
theorem dX10_wantOf_28 : decode cX10_wantOf 28 = .ok (.bipush 60, 2) := by decide +kernel
theorem dX10_wantOf_30 : decode cX10_wantOf 30 = .ok (.goto 38, 3) := by decide +kernel
theorem dX10_wantOf_33 : decode cX10_wantOf 33 = .ok (.iload_n 2, 1) := by decide +kernel
theorem dX10_wantOf_34 : decode cX10_wantOf 34 = .ok (.bipush 40, 2) := by decide +kernel
theorem dX10_wantOf_36 : decode cX10_wantOf 36 = .ok (.if_icmp .ge 8, 3) := by decide +kernel
theorem dX10_wantOf_39 : decode cX10_wantOf 39 = .ok (.bipush 40, 2) := by decide +kernel
theorem dX10_wantOf_41 : decode cX10_wantOf 41 = .ok (.goto 27, 3) := by decide +kernel
theorem dX10_wantOf_44 : decode cX10_wantOf 44 = .ok (.iload_n 2, 1) := by decide +kernel
theorem dX10_wantOf_45 : decode cX10_wantOf 45 = .ok (.bipush 60, 2) := by decide +kernel
theorem dX10_wantOf_47 : decode cX10_wantOf 47 = .ok (.if_icmp .ge 8, 3) := by decide +kernel
theorem dX10_wantOf_50 : decode cX10_wantOf 50 = .ok (.bipush 60, 2) := by decide +kernel
theorem dX10_wantOf_52 : decode cX10_wantOf 52 = .ok (.goto 16, 3) := by decide +kernel
theorem dX10_wantOf_55 : decode cX10_wantOf 55 = .ok (.iload_n 2, 1) := by decide +kernel
theorem dX10_wantOf_56 : decode cX10_wantOf 56 = .ok (.bipush 80, 2) := by decide +kernel
theorem dX10_wantOf_58 : decode cX10_wantOf 58 = .ok (.if_icmp .ge 8, 3) := by decide +kernel
theorem dX10_wantOf_61 : decode cX10_wantOf 61 = .ok (.bipush 80, 2) := by decide +kernel
theorem dX10_wantOf_63 : decode cX10_wantOf 63 = .ok (.goto 5, 3) := by decide +kernel
theorem dX10_wantOf_66 : decode cX10_wantOf 66 = .ok (.bipush 120, 2) := by decide +kernel
theorem dX10_wantOf_68 : decode cX10_wantOf 68 = .ok (.istore_n 3, 1) := by decide +kernel
theorem dX10_wantOf_69 : decode cX10_wantOf 69 = .ok (.aload_n 0, 1) := by decide +kernel
theorem dX10_wantOf_70 : decode cX10_wantOf 70 = .ok (.getfield 152, 3) := by decide +kernel
theorem dX10_wantOf_73 : decode cX10_wantOf 73 = .ok (.ifCond .ne 8, 3) := by decide +kernel
theorem dX10_wantOf_76 : decode cX10_wantOf 76 = .ok (.bipush 120, 2) := by decide +kernel
theorem dX10_wantOf_78 : decode cX10_wantOf 78 = .ok (.goto 31, 3) := by decide +kernel
theorem dX10_wantOf_81 : decode cX10_wantOf 81 = .ok (.aload_n 0, 1) := by decide +kernel
theorem dX10_wantOf_82 : decode cX10_wantOf 82 = .ok (.getfield 152, 3) := by decide +kernel
theorem dX10_wantOf_85 : decode cX10_wantOf 85 = .ok (.iconst 1, 1) := by decide +kernel
theorem dX10_wantOf_86 : decode cX10_wantOf 86 = .ok (.if_icmp .ne 8, 3) := by decide +kernel
theorem dX10_wantOf_89 : decode cX10_wantOf 89 = .ok (.bipush 80, 2) := by decide +kernel
theorem dX10_wantOf_91 : decode cX10_wantOf 91 = .ok (.goto 18, 3) := by decide +kernel
theorem dX10_wantOf_94 : decode cX10_wantOf 94 = .ok (.aload_n 0, 1) := by decide +kernel
theorem dX10_wantOf_95 : decode cX10_wantOf 95 = .ok (.getfield 152, 3) := by decide +kernel
theorem dX10_wantOf_98 : decode cX10_wantOf 98 = .ok (.iconst 2, 1) := by decide +kernel
theorem dX10_wantOf_99 : decode cX10_wantOf 99 = .ok (.if_icmp .ne 8, 3) := by decide +kernel
theorem dX10_wantOf_102 : decode cX10_wantOf 102 = .ok (.bipush 60, 2) := by decide +kernel
theorem dX10_wantOf_104 : decode cX10_wantOf 104 = .ok (.goto 5, 3) := by decide +kernel
theorem dX10_wantOf_107 : decode cX10_wantOf 107 = .ok (.bipush 40, 2) := by decide +kernel
theorem dX10_wantOf_109 : decode cX10_wantOf 109 = .ok (.istore 4, 2) := by decide +kernel
theorem dX10_wantOf_111 : decode cX10_wantOf 111 = .ok (.iload_n 3, 1) := by decide +kernel
theorem dX10_wantOf_112 : decode cX10_wantOf 112 = .ok (.iload 4, 2) := by decide +kernel
theorem dX10_wantOf_114 : decode cX10_wantOf 114 = .ok (.if_icmp .ge 7, 3) := by decide +kernel
theorem dX10_wantOf_117 : decode cX10_wantOf 117 = .ok (.iload_n 3, 1) := by decide +kernel
theorem dX10_wantOf_118 : decode cX10_wantOf 118 = .ok (.goto 5, 3) := by decide +kernel
theorem dX10_wantOf_121 : decode cX10_wantOf 121 = .ok (.iload 4, 2) := by decide +kernel
theorem dX10_wantOf_123 : decode cX10_wantOf 123 = .ok (.ireturn, 1) := by decide +kernel
theorem dX10_setsSpeeds_0 : decode cX10_setsSpeeds 0 = .ok (.bipush 11, 2) := by decide +kernel
theorem dX10_setsSpeeds_2 : decode cX10_setsSpeeds 2 = .ok (.istore_n 1, 1) := by decide +kernel
theorem dX10_setsSpeeds_3 : decode cX10_setsSpeeds 3 = .ok (.iload_n 1, 1) := by decide +kernel
theorem dX10_setsSpeeds_4 : decode cX10_setsSpeeds 4 = .ok (.ifCond .lt 144, 3) := by decide +kernel
theorem dX10_setsSpeeds_7 : decode cX10_setsSpeeds 7 = .ok (.aload_n 0, 1) := by decide +kernel
theorem dX10_setsSpeeds_8 : decode cX10_setsSpeeds 8 = .ok (.getfield 41, 3) := by decide +kernel
theorem dX10_setsSpeeds_11 : decode cX10_setsSpeeds 11 = .ok (.iload_n 1, 1) := by decide +kernel
theorem dX10_setsSpeeds_12 : decode cX10_setsSpeeds 12 = .ok (.iaload, 1) := by decide +kernel
theorem dX10_setsSpeeds_13 : decode cX10_setsSpeeds 13 = .ok (.istore_n 2, 1) := by decide +kernel
theorem dX10_setsSpeeds_14 : decode cX10_setsSpeeds 14 = .ok (.aload_n 0, 1) := by decide +kernel
theorem dX10_setsSpeeds_15 : decode cX10_setsSpeeds 15 = .ok (.iload_n 1, 1) := by decide +kernel
theorem dX10_setsSpeeds_16 : decode cX10_setsSpeeds 16 = .ok (.invokevirtual 155, 3) := by decide +kernel
theorem dX10_setsSpeeds_19 : decode cX10_setsSpeeds 19 = .ok (.istore_n 3, 1) := by decide +kernel
theorem dX10_setsSpeeds_20 : decode cX10_setsSpeeds 20 = .ok (.aload_n 0, 1) := by decide +kernel
theorem dX10_setsSpeeds_21 : decode cX10_setsSpeeds 21 = .ok (.getfield 38, 3) := by decide +kernel
theorem dX10_setsSpeeds_24 : decode cX10_setsSpeeds 24 = .ok (.iload_n 1, 1) := by decide +kernel
theorem dX10_setsSpeeds_25 : decode cX10_setsSpeeds 25 = .ok (.iaload, 1) := by decide +kernel
theorem dX10_setsSpeeds_26 : decode cX10_setsSpeeds 26 = .ok (.iconst (-1), 1) := by decide +kernel
theorem dX10_setsSpeeds_27 : decode cX10_setsSpeeds 27 = .ok (.if_icmp .ne 27, 3) := by decide +kernel
theorem dX10_setsSpeeds_30 : decode cX10_setsSpeeds 30 = .ok (.iload_n 3, 1) := by decide +kernel
theorem dX10_setsSpeeds_31 : decode cX10_setsSpeeds 31 = .ok (.iload_n 2, 1) := by decide +kernel
theorem dX10_setsSpeeds_32 : decode cX10_setsSpeeds 32 = .ok (.if_icmp .le 22, 3) := by decide +kernel
theorem dX10_setsSpeeds_35 : decode cX10_setsSpeeds 35 = .ok (.aload_n 0, 1) := by decide +kernel
theorem dX10_setsSpeeds_36 : decode cX10_setsSpeeds 36 = .ok (.getfield 95, 3) := by decide +kernel
theorem dX10_setsSpeeds_39 : decode cX10_setsSpeeds 39 = .ok (.aload_n 0, 1) := by decide +kernel
theorem dX10_setsSpeeds_40 : decode cX10_setsSpeeds 40 = .ok (.getfield 44, 3) := by decide +kernel
theorem dX10_setsSpeeds_43 : decode cX10_setsSpeeds 43 = .ok (.iload_n 1, 1) := by decide +kernel
theorem dX10_setsSpeeds_44 : decode cX10_setsSpeeds 44 = .ok (.iaload, 1) := by decide +kernel
theorem dX10_setsSpeeds_45 : decode cX10_setsSpeeds 45 = .ok (.isub, 1) := by decide +kernel
theorem dX10_setsSpeeds_46 : decode cX10_setsSpeeds 46 = .ok (.iconst 3, 1) := by decide +kernel
theorem dX10_setsSpeeds_47 : decode cX10_setsSpeeds 47 = .ok (.if_icmp .ge 7, 3) := by decide +kernel
theorem dX10_setsSpeeds_50 : decode cX10_setsSpeeds 50 = .ok (.iconst 1, 1) := by decide +kernel
theorem dX10_setsSpeeds_51 : decode cX10_setsSpeeds 51 = .ok (.goto 4, 3) := by decide +kernel
theorem dX10_setsSpeeds_54 : decode cX10_setsSpeeds 54 = .ok (.iconst 0, 1) := by decide +kernel
theorem dX10_setsSpeeds_55 : decode cX10_setsSpeeds 55 = .ok (.istore 4, 2) := by decide +kernel
theorem dX10_setsSpeeds_57 : decode cX10_setsSpeeds 57 = .ok (.iload 4, 2) := by decide +kernel
theorem dX10_setsSpeeds_59 : decode cX10_setsSpeeds 59 = .ok (.ifCond .eq 7, 3) := by decide +kernel
theorem dX10_setsSpeeds_62 : decode cX10_setsSpeeds 62 = .ok (.iload_n 2, 1) := by decide +kernel
theorem dX10_setsSpeeds_63 : decode cX10_setsSpeeds 63 = .ok (.goto 4, 3) := by decide +kernel
theorem dX10_setsSpeeds_66 : decode cX10_setsSpeeds 66 = .ok (.iload_n 3, 1) := by decide +kernel
theorem dX10_setsSpeeds_67 : decode cX10_setsSpeeds 67 = .ok (.istore 5, 2) := by decide +kernel
theorem dX10_setsSpeeds_69 : decode cX10_setsSpeeds 69 = .ok (.iload_n 1, 1) := by decide +kernel
theorem dX10_setsSpeeds_70 : decode cX10_setsSpeeds 70 = .ok (.bipush 11, 2) := by decide +kernel
theorem dX10_setsSpeeds_72 : decode cX10_setsSpeeds 72 = .ok (.if_icmp .ge 17, 3) := by decide +kernel
theorem dX10_setsSpeeds_75 : decode cX10_setsSpeeds 75 = .ok (.aload_n 0, 1) := by decide +kernel
theorem dX10_setsSpeeds_76 : decode cX10_setsSpeeds 76 = .ok (.getfield 41, 3) := by decide +kernel
theorem dX10_setsSpeeds_79 : decode cX10_setsSpeeds 79 = .ok (.iload_n 1, 1) := by decide +kernel
theorem dX10_setsSpeeds_80 : decode cX10_setsSpeeds 80 = .ok (.iconst 1, 1) := by decide +kernel
theorem dX10_setsSpeeds_81 : decode cX10_setsSpeeds 81 = .ok (.iadd, 1) := by decide +kernel
theorem dX10_setsSpeeds_82 : decode cX10_setsSpeeds 82 = .ok (.iaload, 1) := by decide +kernel
theorem dX10_setsSpeeds_83 : decode cX10_setsSpeeds 83 = .ok (.bipush 20, 2) := by decide +kernel
theorem dX10_setsSpeeds_85 : decode cX10_setsSpeeds 85 = .ok (.iadd, 1) := by decide +kernel
theorem dX10_setsSpeeds_86 : decode cX10_setsSpeeds 86 = .ok (.goto 5, 3) := by decide +kernel
theorem dX10_setsSpeeds_89 : decode cX10_setsSpeeds 89 = .ok (.bipush 120, 2) := by decide +kernel
theorem dX10_setsSpeeds_91 : decode cX10_setsSpeeds 91 = .ok (.istore 6, 2) := by decide +kernel
theorem dX10_setsSpeeds_93 : decode cX10_setsSpeeds 93 = .ok (.aload_n 0, 1) := by decide +kernel
theorem dX10_setsSpeeds_94 : decode cX10_setsSpeeds 94 = .ok (.getfield 41, 3) := by decide +kernel
theorem dX10_setsSpeeds_97 : decode cX10_setsSpeeds 97 = .ok (.iload_n 1, 1) := by decide +kernel
theorem dX10_setsSpeeds_98 : decode cX10_setsSpeeds 98 = .ok (.iload 5, 2) := by decide +kernel
theorem dX10_setsSpeeds_100 : decode cX10_setsSpeeds 100 = .ok (.iload 6, 2) := by decide +kernel
theorem dX10_setsSpeeds_102 : decode cX10_setsSpeeds 102 = .ok (.if_icmp .ge 8, 3) := by decide +kernel
theorem dX10_setsSpeeds_105 : decode cX10_setsSpeeds 105 = .ok (.iload 5, 2) := by decide +kernel
theorem dX10_setsSpeeds_107 : decode cX10_setsSpeeds 107 = .ok (.goto 5, 3) := by decide +kernel
theorem dX10_setsSpeeds_110 : decode cX10_setsSpeeds 110 = .ok (.iload 6, 2) := by decide +kernel
theorem dX10_setsSpeeds_112 : decode cX10_setsSpeeds 112 = .ok (.iastore, 1) := by decide +kernel
theorem dX10_setsSpeeds_113 : decode cX10_setsSpeeds 113 = .ok (.aload_n 0, 1) := by decide +kernel
theorem dX10_setsSpeeds_114 : decode cX10_setsSpeeds 114 = .ok (.getfield 44, 3) := by decide +kernel
theorem dX10_setsSpeeds_117 : decode cX10_setsSpeeds 117 = .ok (.iload_n 1, 1) := by decide +kernel
theorem dX10_setsSpeeds_118 : decode cX10_setsSpeeds 118 = .ok (.aload_n 0, 1) := by decide +kernel
theorem dX10_setsSpeeds_119 : decode cX10_setsSpeeds 119 = .ok (.getfield 41, 3) := by decide +kernel
theorem dX10_setsSpeeds_122 : decode cX10_setsSpeeds 122 = .ok (.iload_n 1, 1) := by decide +kernel
theorem dX10_setsSpeeds_123 : decode cX10_setsSpeeds 123 = .ok (.iaload, 1) := by decide +kernel
theorem dX10_setsSpeeds_124 : decode cX10_setsSpeeds 124 = .ok (.iload_n 2, 1) := by decide +kernel
theorem dX10_setsSpeeds_125 : decode cX10_setsSpeeds 125 = .ok (.if_icmp .ge 10, 3) := by decide +kernel
theorem dX10_setsSpeeds_128 : decode cX10_setsSpeeds 128 = .ok (.aload_n 0, 1) := by decide +kernel
theorem dX10_setsSpeeds_129 : decode cX10_setsSpeeds 129 = .ok (.getfield 95, 3) := by decide +kernel
theorem dX10_setsSpeeds_132 : decode cX10_setsSpeeds 132 = .ok (.goto 9, 3) := by decide +kernel
theorem dX10_setsSpeeds_135 : decode cX10_setsSpeeds 135 = .ok (.aload_n 0, 1) := by decide +kernel
theorem dX10_setsSpeeds_136 : decode cX10_setsSpeeds 136 = .ok (.getfield 44, 3) := by decide +kernel
theorem dX10_setsSpeeds_139 : decode cX10_setsSpeeds 139 = .ok (.iload_n 1, 1) := by decide +kernel
theorem dX10_setsSpeeds_140 : decode cX10_setsSpeeds 140 = .ok (.iaload, 1) := by decide +kernel
theorem dX10_setsSpeeds_141 : decode cX10_setsSpeeds 141 = .ok (.iastore, 1) := by decide +kernel
theorem dX10_setsSpeeds_142 : decode cX10_setsSpeeds 142 = .ok (.iinc 1 (-1), 3) := by decide +kernel
theorem dX10_setsSpeeds_145 : decode cX10_setsSpeeds 145 = .ok (.goto (-142), 3) := by decide +kernel
theorem dX10_setsSpeeds_148 : decode cX10_setsSpeeds 148 = .ok (.return_, 1) := by decide +kernel
theorem dX10_minute_0 : decode cX10_minute 0 = .ok (.aload_n 0, 1) := by decide +kernel
theorem dX10_minute_1 : decode cX10_minute 1 = .ok (.dup, 1) := by decide +kernel
theorem dX10_minute_2 : decode cX10_minute 2 = .ok (.getfield 95, 3) := by decide +kernel
theorem dX10_minute_5 : decode cX10_minute 5 = .ok (.iconst 1, 1) := by decide +kernel
theorem dX10_minute_6 : decode cX10_minute 6 = .ok (.iadd, 1) := by decide +kernel
theorem dX10_minute_7 : decode cX10_minute 7 = .ok (.putfield 95, 3) := by decide +kernel
theorem dX10_minute_10 : decode cX10_minute 10 = .ok (.aload_n 0, 1) := by decide +kernel
theorem dX10_minute_11 : decode cX10_minute 11 = .ok (.invokevirtual 158, 3) := by decide +kernel
theorem dX10_minute_14 : decode cX10_minute 14 = .ok (.bipush 11, 2) := by decide +kernel
theorem dX10_minute_16 : decode cX10_minute 16 = .ok (.istore_n 1, 1) := by decide +kernel
theorem dX10_minute_17 : decode cX10_minute 17 = .ok (.iload_n 1, 1) := by decide +kernel
theorem dX10_minute_18 : decode cX10_minute 18 = .ok (.ifCond .lt 28, 3) := by decide +kernel
theorem dX10_minute_21 : decode cX10_minute 21 = .ok (.iconst 0, 1) := by decide +kernel
theorem dX10_minute_22 : decode cX10_minute 22 = .ok (.istore_n 2, 1) := by decide +kernel
theorem dX10_minute_23 : decode cX10_minute 23 = .ok (.iload_n 2, 1) := by decide +kernel
theorem dX10_minute_24 : decode cX10_minute 24 = .ok (.iconst 4, 1) := by decide +kernel
theorem dX10_minute_25 : decode cX10_minute 25 = .ok (.if_icmp .ge 15, 3) := by decide +kernel
theorem dX10_minute_28 : decode cX10_minute 28 = .ok (.aload_n 0, 1) := by decide +kernel
theorem dX10_minute_29 : decode cX10_minute 29 = .ok (.iload_n 1, 1) := by decide +kernel
theorem dX10_minute_30 : decode cX10_minute 30 = .ok (.iload_n 2, 1) := by decide +kernel
theorem dX10_minute_31 : decode cX10_minute 31 = .ok (.invokevirtual 161, 3) := by decide +kernel
theorem dX10_minute_34 : decode cX10_minute 34 = .ok (.iinc 2 1, 3) := by decide +kernel
theorem dX10_minute_37 : decode cX10_minute 37 = .ok (.goto (-14), 3) := by decide +kernel
theorem dX10_minute_40 : decode cX10_minute 40 = .ok (.iinc 1 (-1), 3) := by decide +kernel
theorem dX10_minute_43 : decode cX10_minute 43 = .ok (.goto (-26), 3) := by decide +kernel
theorem dX10_minute_46 : decode cX10_minute 46 = .ok (.aload_n 0, 1) := by decide +kernel
theorem dX10_minute_47 : decode cX10_minute 47 = .ok (.invokevirtual 165, 3) := by decide +kernel
theorem dX10_minute_50 : decode cX10_minute 50 = .ok (.iconst 0, 1) := by decide +kernel
theorem dX10_minute_51 : decode cX10_minute 51 = .ok (.istore_n 1, 1) := by decide +kernel
theorem dX10_minute_52 : decode cX10_minute 52 = .ok (.iload_n 1, 1) := by decide +kernel
theorem dX10_minute_53 : decode cX10_minute 53 = .ok (.bipush 12, 2) := by decide +kernel
theorem dX10_minute_55 : decode cX10_minute 55 = .ok (.if_icmp .ge 47, 3) := by decide +kernel
theorem dX10_minute_58 : decode cX10_minute 58 = .ok (.aload_n 0, 1) := by decide +kernel
theorem dX10_minute_59 : decode cX10_minute 59 = .ok (.iload_n 1, 1) := by decide +kernel
theorem dX10_minute_60 : decode cX10_minute 60 = .ok (.invokevirtual 139, 3) := by decide +kernel
theorem dX10_minute_63 : decode cX10_minute 63 = .ok (.istore_n 2, 1) := by decide +kernel
theorem dX10_minute_64 : decode cX10_minute 64 = .ok (.aload_n 0, 1) := by decide +kernel
theorem dX10_minute_65 : decode cX10_minute 65 = .ok (.getfield 20, 3) := by decide +kernel
theorem dX10_minute_68 : decode cX10_minute 68 = .ok (.iload_n 1, 1) := by decide +kernel
theorem dX10_minute_69 : decode cX10_minute 69 = .ok (.iload_n 2, 1) := by decide +kernel
theorem dX10_minute_70 : decode cX10_minute 70 = .ok (.bipush 15, 2) := by decide +kernel
theorem dX10_minute_72 : decode cX10_minute 72 = .ok (.if_icmp .ge 18, 3) := by decide +kernel
theorem dX10_minute_75 : decode cX10_minute 75 = .ok (.aload_n 0, 1) := by decide +kernel
theorem dX10_minute_76 : decode cX10_minute 76 = .ok (.getfield 20, 3) := by decide +kernel
theorem dX10_minute_79 : decode cX10_minute 79 = .ok (.iload_n 1, 1) := by decide +kernel
theorem dX10_minute_80 : decode cX10_minute 80 = .ok (.baload, 1) := by decide +kernel
theorem dX10_minute_81 : decode cX10_minute 81 = .ok (.ifCond .eq 13, 3) := by decide +kernel
theorem dX10_minute_84 : decode cX10_minute 84 = .ok (.iload_n 2, 1) := by decide +kernel
theorem dX10_minute_85 : decode cX10_minute 85 = .ok (.bipush 8, 2) := by decide +kernel
theorem dX10_minute_87 : decode cX10_minute 87 = .ok (.if_icmp .lt 7, 3) := by decide +kernel
theorem dX10_minute_90 : decode cX10_minute 90 = .ok (.iconst 1, 1) := by decide +kernel
theorem dX10_minute_91 : decode cX10_minute 91 = .ok (.goto 4, 3) := by decide +kernel
theorem dX10_minute_94 : decode cX10_minute 94 = .ok (.iconst 0, 1) := by decide +kernel
theorem dX10_minute_95 : decode cX10_minute 95 = .ok (.bastore, 1) := by decide +kernel
theorem dX10_minute_96 : decode cX10_minute 96 = .ok (.iinc 1 1, 3) := by decide +kernel
theorem dX10_minute_99 : decode cX10_minute 99 = .ok (.goto (-47), 3) := by decide +kernel
theorem dX10_minute_102 : decode cX10_minute 102 = .ok (.aload_n 0, 1) := by decide +kernel
theorem dX10_minute_103 : decode cX10_minute 103 = .ok (.invokevirtual 168, 3) := by decide +kernel
theorem dX10_minute_106 : decode cX10_minute 106 = .ok (.aload_n 0, 1) := by decide +kernel
theorem dX10_minute_107 : decode cX10_minute 107 = .ok (.invokevirtual 80, 3) := by decide +kernel
theorem dX10_minute_110 : decode cX10_minute 110 = .ok (.return_, 1) := by decide +kernel
theorem dX10_demand_0 : decode cX10_demand 0 = .ok (.aload_n 0, 1) := by decide +kernel
theorem dX10_demand_1 : decode cX10_demand 1 = .ok (.iload_n 1, 1) := by decide +kernel
theorem dX10_demand_2 : decode cX10_demand 2 = .ok (.iconst 0, 1) := by decide +kernel
theorem dX10_demand_3 : decode cX10_demand 3 = .ok (.bipush 40, 2) := by decide +kernel
theorem dX10_demand_5 : decode cX10_demand 5 = .ok (.invokestatic 87, 3) := by decide +kernel
theorem dX10_demand_8 : decode cX10_demand 8 = .ok (.ifCond .eq 7, 3) := by decide +kernel
theorem dX10_demand_11 : decode cX10_demand 11 = .ok (.iconst 0, 1) := by decide +kernel
theorem dX10_demand_12 : decode cX10_demand 12 = .ok (.goto 4, 3) := by decide +kernel
theorem dX10_demand_15 : decode cX10_demand 15 = .ok (.iconst 1, 1) := by decide +kernel
theorem dX10_demand_16 : decode cX10_demand 16 = .ok (.invokevirtual 171, 3) := by decide +kernel
theorem dX10_demand_19 : decode cX10_demand 19 = .ok (.ifCond .ne 5, 3) := by decide +kernel
theorem dX10_demand_22 : decode cX10_demand 22 = .ok (.iconst 0, 1) := by decide +kernel
theorem dX10_demand_23 : decode cX10_demand 23 = .ok (.ireturn, 1) := by decide +kernel
theorem dX10_demand_24 : decode cX10_demand 24 = .ok (.aload_n 0, 1) := by decide +kernel
theorem dX10_demand_25 : decode cX10_demand 25 = .ok (.getfield 133, 3) := by decide +kernel
theorem dX10_demand_28 : decode cX10_demand 28 = .ok (.istore_n 2, 1) := by decide +kernel
theorem dX10_demand_29 : decode cX10_demand 29 = .ok (.aload_n 0, 1) := by decide +kernel
theorem dX10_demand_30 : decode cX10_demand 30 = .ok (.iload_n 1, 1) := by decide +kernel
theorem dX10_demand_31 : decode cX10_demand 31 = .ok (.putfield 133, 3) := by decide +kernel
theorem dX10_demand_34 : decode cX10_demand 34 = .ok (.iload_n 2, 1) := by decide +kernel
theorem dX10_demand_35 : decode cX10_demand 35 = .ok (.ireturn, 1) := by decide +kernel
theorem dX10_pass_0 : decode cX10_pass 0 = .ok (.aload_n 0, 1) := by decide +kernel
theorem dX10_pass_1 : decode cX10_pass 1 = .ok (.iload_n 1, 1) := by decide +kernel
theorem dX10_pass_2 : decode cX10_pass 2 = .ok (.iconst 1, 1) := by decide +kernel
theorem dX10_pass_3 : decode cX10_pass 3 = .ok (.bipush 60, 2) := by decide +kernel
theorem dX10_pass_5 : decode cX10_pass 5 = .ok (.invokestatic 87, 3) := by decide +kernel
theorem dX10_pass_8 : decode cX10_pass 8 = .ok (.ifCond .ne 7, 3) := by decide +kernel
theorem dX10_pass_11 : decode cX10_pass 11 = .ok (.iconst 1, 1) := by decide +kernel
theorem dX10_pass_12 : decode cX10_pass 12 = .ok (.goto 20, 3) := by decide +kernel
theorem dX10_pass_15 : decode cX10_pass 15 = .ok (.aload_n 0, 1) := by decide +kernel
theorem dX10_pass_16 : decode cX10_pass 16 = .ok (.getfield 95, 3) := by decide +kernel
theorem dX10_pass_19 : decode cX10_pass 19 = .ok (.iload_n 1, 1) := by decide +kernel
theorem dX10_pass_20 : decode cX10_pass 20 = .ok (.iadd, 1) := by decide +kernel
theorem dX10_pass_21 : decode cX10_pass 21 = .ok (.sipush 600, 3) := by decide +kernel
theorem dX10_pass_24 : decode cX10_pass 24 = .ok (.if_icmp .le 7, 3) := by decide +kernel
theorem dX10_pass_27 : decode cX10_pass 27 = .ok (.iconst 2, 1) := by decide +kernel
theorem dX10_pass_28 : decode cX10_pass 28 = .ok (.goto 4, 3) := by decide +kernel
theorem dX10_pass_31 : decode cX10_pass 31 = .ok (.iconst 0, 1) := by decide +kernel
theorem dX10_pass_32 : decode cX10_pass 32 = .ok (.invokevirtual 171, 3) := by decide +kernel
theorem dX10_pass_35 : decode cX10_pass 35 = .ok (.ifCond .ne 5, 3) := by decide +kernel
theorem dX10_pass_38 : decode cX10_pass 38 = .ok (.iconst 0, 1) := by decide +kernel
theorem dX10_pass_39 : decode cX10_pass 39 = .ok (.ireturn, 1) := by decide +kernel
theorem dX10_pass_40 : decode cX10_pass 40 = .ok (.iconst 0, 1) := by decide +kernel
theorem dX10_pass_41 : decode cX10_pass 41 = .ok (.istore_n 2, 1) := by decide +kernel
theorem dX10_pass_42 : decode cX10_pass 42 = .ok (.iload_n 2, 1) := by decide +kernel
theorem dX10_pass_43 : decode cX10_pass 43 = .ok (.iload_n 1, 1) := by decide +kernel
theorem dX10_pass_44 : decode cX10_pass 44 = .ok (.if_icmp .ge 13, 3) := by decide +kernel
theorem dX10_pass_47 : decode cX10_pass 47 = .ok (.aload_n 0, 1) := by decide +kernel
theorem dX10_pass_48 : decode cX10_pass 48 = .ok (.invokevirtual 174, 3) := by decide +kernel
theorem dX10_pass_51 : decode cX10_pass 51 = .ok (.iinc 2 1, 3) := by decide +kernel
theorem dX10_pass_54 : decode cX10_pass 54 = .ok (.goto (-12), 3) := by decide +kernel
theorem dX10_pass_57 : decode cX10_pass 57 = .ok (.aload_n 0, 1) := by decide +kernel
theorem dX10_pass_58 : decode cX10_pass 58 = .ok (.getfield 95, 3) := by decide +kernel
theorem dX10_pass_61 : decode cX10_pass 61 = .ok (.ireturn, 1) := by decide +kernel
theorem dX10_holds__0 : decode cX10_holds_ 0 = .ok (.aload_n 0, 1) := by decide +kernel
theorem dX10_holds__1 : decode cX10_holds_ 1 = .ok (.iload_n 1, 1) := by decide +kernel
theorem dX10_holds__2 : decode cX10_holds_ 2 = .ok (.iload_n 2, 1) := by decide +kernel
theorem dX10_holds__3 : decode cX10_holds_ 3 = .ok (.invokestatic 177, 3) := by decide +kernel
theorem dX10_holds__6 : decode cX10_holds_ 6 = .ok (.ifCond .eq 7, 3) := by decide +kernel
theorem dX10_holds__9 : decode cX10_holds_ 9 = .ok (.iconst 0, 1) := by decide +kernel
theorem dX10_holds__10 : decode cX10_holds_ 10 = .ok (.goto 4, 3) := by decide +kernel
theorem dX10_holds__13 : decode cX10_holds_ 13 = .ok (.iconst 1, 1) := by decide +kernel
theorem dX10_holds__14 : decode cX10_holds_ 14 = .ok (.invokevirtual 171, 3) := by decide +kernel
theorem dX10_holds__17 : decode cX10_holds_ 17 = .ok (.ifCond .eq 16, 3) := by decide +kernel
theorem dX10_holds__20 : decode cX10_holds_ 20 = .ok (.aload_n 0, 1) := by decide +kernel
theorem dX10_holds__21 : decode cX10_holds_ 21 = .ok (.getfield 7, 3) := by decide +kernel
theorem dX10_holds__24 : decode cX10_holds_ 24 = .ok (.iconst 4, 1) := by decide +kernel
theorem dX10_holds__25 : decode cX10_holds_ 25 = .ok (.iload_n 1, 1) := by decide +kernel
theorem dX10_holds__26 : decode cX10_holds_ 26 = .ok (.imul, 1) := by decide +kernel
theorem dX10_holds__27 : decode cX10_holds_ 27 = .ok (.iload_n 2, 1) := by decide +kernel
theorem dX10_holds__28 : decode cX10_holds_ 28 = .ok (.iadd, 1) := by decide +kernel
theorem dX10_holds__29 : decode cX10_holds_ 29 = .ok (.iaload, 1) := by decide +kernel
theorem dX10_holds__30 : decode cX10_holds_ 30 = .ok (.goto 4, 3) := by decide +kernel
theorem dX10_holds__33 : decode cX10_holds_ 33 = .ok (.iconst 0, 1) := by decide +kernel
theorem dX10_holds__34 : decode cX10_holds_ 34 = .ok (.ireturn, 1) := by decide +kernel
theorem dX10_vehicles_0 : decode cX10_vehicles 0 = .ok (.aload_n 0, 1) := by decide +kernel
theorem dX10_vehicles_1 : decode cX10_vehicles 1 = .ok (.iload_n 1, 1) := by decide +kernel
theorem dX10_vehicles_2 : decode cX10_vehicles 2 = .ok (.iconst 0, 1) := by decide +kernel
theorem dX10_vehicles_3 : decode cX10_vehicles 3 = .ok (.iconst 3, 1) := by decide +kernel
theorem dX10_vehicles_4 : decode cX10_vehicles 4 = .ok (.invokestatic 87, 3) := by decide +kernel
theorem dX10_vehicles_7 : decode cX10_vehicles 7 = .ok (.ifCond .eq 7, 3) := by decide +kernel
theorem dX10_vehicles_10 : decode cX10_vehicles 10 = .ok (.iconst 0, 1) := by decide +kernel
theorem dX10_vehicles_11 : decode cX10_vehicles 11 = .ok (.goto 4, 3) := by decide +kernel
theorem dX10_vehicles_14 : decode cX10_vehicles 14 = .ok (.iconst 1, 1) := by decide +kernel
theorem dX10_vehicles_15 : decode cX10_vehicles 15 = .ok (.invokevirtual 171, 3) := by decide +kernel
theorem dX10_vehicles_18 : decode cX10_vehicles 18 = .ok (.ifCond .ne 5, 3) := by decide +kernel
theorem dX10_vehicles_21 : decode cX10_vehicles 21 = .ok (.iconst 0, 1) := by decide +kernel
theorem dX10_vehicles_22 : decode cX10_vehicles 22 = .ok (.ireturn, 1) := by decide +kernel
theorem dX10_vehicles_23 : decode cX10_vehicles 23 = .ok (.iconst 0, 1) := by decide +kernel
theorem dX10_vehicles_24 : decode cX10_vehicles 24 = .ok (.istore_n 2, 1) := by decide +kernel
theorem dX10_vehicles_25 : decode cX10_vehicles 25 = .ok (.iconst 0, 1) := by decide +kernel
theorem dX10_vehicles_26 : decode cX10_vehicles 26 = .ok (.istore_n 3, 1) := by decide +kernel
theorem dX10_vehicles_27 : decode cX10_vehicles 27 = .ok (.iload_n 3, 1) := by decide +kernel
theorem dX10_vehicles_28 : decode cX10_vehicles 28 = .ok (.bipush 48, 2) := by decide +kernel
theorem dX10_vehicles_30 : decode cX10_vehicles 30 = .ok (.if_icmp .ge 18, 3) := by decide +kernel
theorem dX10_vehicles_33 : decode cX10_vehicles 33 = .ok (.iload_n 2, 1) := by decide +kernel
theorem dX10_vehicles_34 : decode cX10_vehicles 34 = .ok (.aload_n 0, 1) := by decide +kernel
theorem dX10_vehicles_35 : decode cX10_vehicles 35 = .ok (.getfield 7, 3) := by decide +kernel
theorem dX10_vehicles_38 : decode cX10_vehicles 38 = .ok (.iload_n 3, 1) := by decide +kernel
theorem dX10_vehicles_39 : decode cX10_vehicles 39 = .ok (.iaload, 1) := by decide +kernel
theorem dX10_vehicles_40 : decode cX10_vehicles 40 = .ok (.iadd, 1) := by decide +kernel
theorem dX10_vehicles_41 : decode cX10_vehicles 41 = .ok (.istore_n 2, 1) := by decide +kernel
theorem dX10_vehicles_42 : decode cX10_vehicles 42 = .ok (.iinc 3 1, 3) := by decide +kernel
theorem dX10_vehicles_45 : decode cX10_vehicles 45 = .ok (.goto (-18), 3) := by decide +kernel
theorem dX10_vehicles_48 : decode cX10_vehicles 48 = .ok (.iload_n 1, 1) := by decide +kernel
theorem dX10_vehicles_49 : decode cX10_vehicles 49 = .ok (.ifCond .ne 10, 3) := by decide +kernel
theorem dX10_vehicles_52 : decode cX10_vehicles 52 = .ok (.aload_n 0, 1) := by decide +kernel
theorem dX10_vehicles_53 : decode cX10_vehicles 53 = .ok (.getfield 130, 3) := by decide +kernel
theorem dX10_vehicles_56 : decode cX10_vehicles 56 = .ok (.goto 28, 3) := by decide +kernel
theorem dX10_vehicles_59 : decode cX10_vehicles 59 = .ok (.iload_n 1, 1) := by decide +kernel
theorem dX10_vehicles_60 : decode cX10_vehicles 60 = .ok (.iconst 1, 1) := by decide +kernel
theorem dX10_vehicles_61 : decode cX10_vehicles 61 = .ok (.if_icmp .ne 7, 3) := by decide +kernel
theorem dX10_vehicles_64 : decode cX10_vehicles 64 = .ok (.iload_n 2, 1) := by decide +kernel
theorem dX10_vehicles_65 : decode cX10_vehicles 65 = .ok (.goto 19, 3) := by decide +kernel
theorem dX10_vehicles_68 : decode cX10_vehicles 68 = .ok (.iload_n 1, 1) := by decide +kernel
theorem dX10_vehicles_69 : decode cX10_vehicles 69 = .ok (.iconst 2, 1) := by decide +kernel
theorem dX10_vehicles_70 : decode cX10_vehicles 70 = .ok (.if_icmp .ne 10, 3) := by decide +kernel
theorem dX10_vehicles_73 : decode cX10_vehicles 73 = .ok (.aload_n 0, 1) := by decide +kernel
theorem dX10_vehicles_74 : decode cX10_vehicles 74 = .ok (.getfield 136, 3) := by decide +kernel
theorem dX10_vehicles_77 : decode cX10_vehicles 77 = .ok (.goto 7, 3) := by decide +kernel
theorem dX10_vehicles_80 : decode cX10_vehicles 80 = .ok (.aload_n 0, 1) := by decide +kernel
theorem dX10_vehicles_81 : decode cX10_vehicles 81 = .ok (.getfield 127, 3) := by decide +kernel
theorem dX10_vehicles_84 : decode cX10_vehicles 84 = .ok (.ireturn, 1) := by decide +kernel
theorem dX10_section_0 : decode cX10_section 0 = .ok (.aload_n 0, 1) := by decide +kernel
theorem dX10_section_1 : decode cX10_section 1 = .ok (.iload_n 1, 1) := by decide +kernel
theorem dX10_section_2 : decode cX10_section 2 = .ok (.invokestatic 91, 3) := by decide +kernel
theorem dX10_section_5 : decode cX10_section 5 = .ok (.ifCond .ne 7, 3) := by decide +kernel
theorem dX10_section_8 : decode cX10_section 8 = .ok (.iconst 1, 1) := by decide +kernel
theorem dX10_section_9 : decode cX10_section 9 = .ok (.goto 17, 3) := by decide +kernel
theorem dX10_section_12 : decode cX10_section 12 = .ok (.iload_n 2, 1) := by decide +kernel
theorem dX10_section_13 : decode cX10_section 13 = .ok (.iconst 0, 1) := by decide +kernel
theorem dX10_section_14 : decode cX10_section 14 = .ok (.iconst 5, 1) := by decide +kernel
theorem dX10_section_15 : decode cX10_section 15 = .ok (.invokestatic 87, 3) := by decide +kernel
theorem dX10_section_18 : decode cX10_section 18 = .ok (.ifCond .eq 7, 3) := by decide +kernel
theorem dX10_section_21 : decode cX10_section 21 = .ok (.iconst 0, 1) := by decide +kernel
theorem dX10_section_22 : decode cX10_section 22 = .ok (.goto 4, 3) := by decide +kernel
theorem dX10_section_25 : decode cX10_section 25 = .ok (.iconst 2, 1) := by decide +kernel
theorem dX10_section_26 : decode cX10_section 26 = .ok (.invokevirtual 171, 3) := by decide +kernel
theorem dX10_section_29 : decode cX10_section 29 = .ok (.ifCond .ne 5, 3) := by decide +kernel
theorem dX10_section_32 : decode cX10_section 32 = .ok (.iconst 0, 1) := by decide +kernel
theorem dX10_section_33 : decode cX10_section 33 = .ok (.ireturn, 1) := by decide +kernel
theorem dX10_section_34 : decode cX10_section 34 = .ok (.iload_n 2, 1) := by decide +kernel
theorem dX10_section_35 : decode cX10_section 35 = .ok (.iconst 3, 1) := by decide +kernel
theorem dX10_section_36 : decode cX10_section 36 = .ok (.if_icmp .ge 34, 3) := by decide +kernel
theorem dX10_section_39 : decode cX10_section 39 = .ok (.iload_n 2, 1) := by decide +kernel
theorem dX10_section_40 : decode cX10_section 40 = .ok (.ifCond .ne 11, 3) := by decide +kernel
theorem dX10_section_43 : decode cX10_section 43 = .ok (.aload_n 0, 1) := by decide +kernel
theorem dX10_section_44 : decode cX10_section 44 = .ok (.iload_n 1, 1) := by decide +kernel
theorem dX10_section_45 : decode cX10_section 45 = .ok (.invokevirtual 143, 3) := by decide +kernel
theorem dX10_section_48 : decode cX10_section 48 = .ok (.goto 21, 3) := by decide +kernel
theorem dX10_section_51 : decode cX10_section 51 = .ok (.iload_n 2, 1) := by decide +kernel
theorem dX10_section_52 : decode cX10_section 52 = .ok (.iconst 1, 1) := by decide +kernel
theorem dX10_section_53 : decode cX10_section 53 = .ok (.if_icmp .ne 11, 3) := by decide +kernel
theorem dX10_section_56 : decode cX10_section 56 = .ok (.aload_n 0, 1) := by decide +kernel
theorem dX10_section_57 : decode cX10_section 57 = .ok (.iload_n 1, 1) := by decide +kernel
theorem dX10_section_58 : decode cX10_section 58 = .ok (.invokevirtual 149, 3) := by decide +kernel
theorem dX10_section_61 : decode cX10_section 61 = .ok (.goto 8, 3) := by decide +kernel
theorem dX10_section_64 : decode cX10_section 64 = .ok (.aload_n 0, 1) := by decide +kernel
theorem dX10_section_65 : decode cX10_section 65 = .ok (.iload_n 1, 1) := by decide +kernel
theorem dX10_section_66 : decode cX10_section 66 = .ok (.invokevirtual 146, 3) := by decide +kernel
theorem dX10_section_69 : decode cX10_section 69 = .ok (.ireturn, 1) := by decide +kernel
theorem dX10_section_70 : decode cX10_section 70 = .ok (.iload_n 2, 1) := by decide +kernel
theorem dX10_section_71 : decode cX10_section 71 = .ok (.iconst 3, 1) := by decide +kernel
theorem dX10_section_72 : decode cX10_section 72 = .ok (.if_icmp .ne 12, 3) := by decide +kernel
theorem dX10_section_75 : decode cX10_section 75 = .ok (.aload_n 0, 1) := by decide +kernel
theorem dX10_section_76 : decode cX10_section 76 = .ok (.getfield 41, 3) := by decide +kernel
theorem dX10_section_79 : decode cX10_section 79 = .ok (.iload_n 1, 1) := by decide +kernel
theorem dX10_section_80 : decode cX10_section 80 = .ok (.iaload, 1) := by decide +kernel
theorem dX10_section_81 : decode cX10_section 81 = .ok (.goto 31, 3) := by decide +kernel
theorem dX10_section_84 : decode cX10_section 84 = .ok (.iload_n 2, 1) := by decide +kernel
theorem dX10_section_85 : decode cX10_section 85 = .ok (.iconst 5, 1) := by decide +kernel
theorem dX10_section_86 : decode cX10_section 86 = .ok (.if_icmp .ne 12, 3) := by decide +kernel
theorem dX10_section_89 : decode cX10_section 89 = .ok (.aload_n 0, 1) := by decide +kernel
theorem dX10_section_90 : decode cX10_section 90 = .ok (.getfield 32, 3) := by decide +kernel
theorem dX10_section_93 : decode cX10_section 93 = .ok (.iload_n 1, 1) := by decide +kernel
theorem dX10_section_94 : decode cX10_section 94 = .ok (.iaload, 1) := by decide +kernel
theorem dX10_section_95 : decode cX10_section 95 = .ok (.goto 17, 3) := by decide +kernel
theorem dX10_section_98 : decode cX10_section 98 = .ok (.aload_n 0, 1) := by decide +kernel
theorem dX10_section_99 : decode cX10_section 99 = .ok (.getfield 20, 3) := by decide +kernel
theorem dX10_section_102 : decode cX10_section 102 = .ok (.iload_n 1, 1) := by decide +kernel
theorem dX10_section_103 : decode cX10_section 103 = .ok (.baload, 1) := by decide +kernel
theorem dX10_section_104 : decode cX10_section 104 = .ok (.ifCond .eq 7, 3) := by decide +kernel
theorem dX10_section_107 : decode cX10_section 107 = .ok (.iconst 1, 1) := by decide +kernel
theorem dX10_section_108 : decode cX10_section 108 = .ok (.goto 4, 3) := by decide +kernel
theorem dX10_section_111 : decode cX10_section 111 = .ok (.iconst 0, 1) := by decide +kernel
theorem dX10_section_112 : decode cX10_section 112 = .ok (.ireturn, 1) := by decide +kernel
theorem dX10_detector_0 : decode cX10_detector 0 = .ok (.iload_n 2, 1) := by decide +kernel
theorem dX10_detector_1 : decode cX10_detector 1 = .ok (.iconst 0, 1) := by decide +kernel
theorem dX10_detector_2 : decode cX10_detector 2 = .ok (.iconst 2, 1) := by decide +kernel
theorem dX10_detector_3 : decode cX10_detector 3 = .ok (.invokestatic 87, 3) := by decide +kernel
theorem dX10_detector_6 : decode cX10_detector 6 = .ok (.ifCond .eq 22, 3) := by decide +kernel
theorem dX10_detector_9 : decode cX10_detector 9 = .ok (.iload_n 2, 1) := by decide +kernel
theorem dX10_detector_10 : decode cX10_detector 10 = .ok (.iconst 1, 1) := by decide +kernel
theorem dX10_detector_11 : decode cX10_detector 11 = .ok (.if_icmp .ne 13, 3) := by decide +kernel
theorem dX10_detector_14 : decode cX10_detector 14 = .ok (.iload_n 3, 1) := by decide +kernel
theorem dX10_detector_15 : decode cX10_detector 15 = .ok (.iconst 0, 1) := by decide +kernel
theorem dX10_detector_16 : decode cX10_detector 16 = .ok (.bipush 120, 2) := by decide +kernel
theorem dX10_detector_18 : decode cX10_detector 18 = .ok (.invokestatic 87, 3) := by decide +kernel
theorem dX10_detector_21 : decode cX10_detector 21 = .ok (.ifCond .eq 7, 3) := by decide +kernel
theorem dX10_detector_24 : decode cX10_detector 24 = .ok (.iconst 1, 1) := by decide +kernel
theorem dX10_detector_25 : decode cX10_detector 25 = .ok (.goto 4, 3) := by decide +kernel
theorem dX10_detector_28 : decode cX10_detector 28 = .ok (.iconst 0, 1) := by decide +kernel
theorem dX10_detector_29 : decode cX10_detector 29 = .ok (.istore 4, 2) := by decide +kernel
theorem dX10_detector_31 : decode cX10_detector 31 = .ok (.aload_n 0, 1) := by decide +kernel
theorem dX10_detector_32 : decode cX10_detector 32 = .ok (.iload_n 1, 1) := by decide +kernel
theorem dX10_detector_33 : decode cX10_detector 33 = .ok (.invokestatic 91, 3) := by decide +kernel
theorem dX10_detector_36 : decode cX10_detector 36 = .ok (.ifCond .ne 7, 3) := by decide +kernel
theorem dX10_detector_39 : decode cX10_detector 39 = .ok (.iconst 1, 1) := by decide +kernel
theorem dX10_detector_40 : decode cX10_detector 40 = .ok (.goto 13, 3) := by decide +kernel
theorem dX10_detector_43 : decode cX10_detector 43 = .ok (.iload 4, 2) := by decide +kernel
theorem dX10_detector_45 : decode cX10_detector 45 = .ok (.ifCond .eq 7, 3) := by decide +kernel
theorem dX10_detector_48 : decode cX10_detector 48 = .ok (.iconst 0, 1) := by decide +kernel
theorem dX10_detector_49 : decode cX10_detector 49 = .ok (.goto 4, 3) := by decide +kernel
theorem dX10_detector_52 : decode cX10_detector 52 = .ok (.iconst 2, 1) := by decide +kernel
theorem dX10_detector_53 : decode cX10_detector 53 = .ok (.invokevirtual 171, 3) := by decide +kernel
theorem dX10_detector_56 : decode cX10_detector 56 = .ok (.ifCond .ne 5, 3) := by decide +kernel
theorem dX10_detector_59 : decode cX10_detector 59 = .ok (.iconst 0, 1) := by decide +kernel
theorem dX10_detector_60 : decode cX10_detector 60 = .ok (.ireturn, 1) := by decide +kernel
theorem dX10_detector_61 : decode cX10_detector 61 = .ok (.aload_n 0, 1) := by decide +kernel
theorem dX10_detector_62 : decode cX10_detector 62 = .ok (.getfield 32, 3) := by decide +kernel
theorem dX10_detector_65 : decode cX10_detector 65 = .ok (.iload_n 1, 1) := by decide +kernel
theorem dX10_detector_66 : decode cX10_detector 66 = .ok (.iaload, 1) := by decide +kernel
theorem dX10_detector_67 : decode cX10_detector 67 = .ok (.istore 5, 2) := by decide +kernel
theorem dX10_detector_69 : decode cX10_detector 69 = .ok (.aload_n 0, 1) := by decide +kernel
theorem dX10_detector_70 : decode cX10_detector 70 = .ok (.getfield 32, 3) := by decide +kernel
theorem dX10_detector_73 : decode cX10_detector 73 = .ok (.iload_n 1, 1) := by decide +kernel
theorem dX10_detector_74 : decode cX10_detector 74 = .ok (.iload_n 2, 1) := by decide +kernel
theorem dX10_detector_75 : decode cX10_detector 75 = .ok (.iastore, 1) := by decide +kernel
theorem dX10_detector_76 : decode cX10_detector 76 = .ok (.aload_n 0, 1) := by decide +kernel
theorem dX10_detector_77 : decode cX10_detector 77 = .ok (.getfield 35, 3) := by decide +kernel
theorem dX10_detector_80 : decode cX10_detector 80 = .ok (.iload_n 1, 1) := by decide +kernel
theorem dX10_detector_81 : decode cX10_detector 81 = .ok (.iload_n 3, 1) := by decide +kernel
theorem dX10_detector_82 : decode cX10_detector 82 = .ok (.iastore, 1) := by decide +kernel
theorem dX10_detector_83 : decode cX10_detector 83 = .ok (.iload 5, 2) := by decide +kernel
theorem dX10_detector_85 : decode cX10_detector 85 = .ok (.ireturn, 1) := by decide +kernel
theorem dX10_weather_0 : decode cX10_weather 0 = .ok (.aload_n 0, 1) := by decide +kernel
theorem dX10_weather_1 : decode cX10_weather 1 = .ok (.iload_n 1, 1) := by decide +kernel
theorem dX10_weather_2 : decode cX10_weather 2 = .ok (.iconst 0, 1) := by decide +kernel
theorem dX10_weather_3 : decode cX10_weather 3 = .ok (.iconst 3, 1) := by decide +kernel
theorem dX10_weather_4 : decode cX10_weather 4 = .ok (.invokestatic 87, 3) := by decide +kernel
theorem dX10_weather_7 : decode cX10_weather 7 = .ok (.ifCond .eq 7, 3) := by decide +kernel
theorem dX10_weather_10 : decode cX10_weather 10 = .ok (.iconst 0, 1) := by decide +kernel
theorem dX10_weather_11 : decode cX10_weather 11 = .ok (.goto 4, 3) := by decide +kernel
theorem dX10_weather_14 : decode cX10_weather 14 = .ok (.iconst 1, 1) := by decide +kernel
theorem dX10_weather_15 : decode cX10_weather 15 = .ok (.invokevirtual 171, 3) := by decide +kernel
theorem dX10_weather_18 : decode cX10_weather 18 = .ok (.ifCond .ne 5, 3) := by decide +kernel
theorem dX10_weather_21 : decode cX10_weather 21 = .ok (.iconst 0, 1) := by decide +kernel
theorem dX10_weather_22 : decode cX10_weather 22 = .ok (.ireturn, 1) := by decide +kernel
theorem dX10_weather_23 : decode cX10_weather 23 = .ok (.aload_n 0, 1) := by decide +kernel
theorem dX10_weather_24 : decode cX10_weather 24 = .ok (.getfield 152, 3) := by decide +kernel
theorem dX10_weather_27 : decode cX10_weather 27 = .ok (.istore_n 2, 1) := by decide +kernel
theorem dX10_weather_28 : decode cX10_weather 28 = .ok (.aload_n 0, 1) := by decide +kernel
theorem dX10_weather_29 : decode cX10_weather 29 = .ok (.iload_n 1, 1) := by decide +kernel
theorem dX10_weather_30 : decode cX10_weather 30 = .ok (.putfield 152, 3) := by decide +kernel
theorem dX10_weather_33 : decode cX10_weather 33 = .ok (.iload_n 2, 1) := by decide +kernel
theorem dX10_weather_34 : decode cX10_weather 34 = .ok (.ireturn, 1) := by decide +kernel
theorem dX10_limit_0 : decode cX10_limit 0 = .ok (.iload_n 2, 1) := by decide +kernel
theorem dX10_limit_1 : decode cX10_limit 1 = .ok (.iconst (-1), 1) := by decide +kernel
theorem dX10_limit_2 : decode cX10_limit 2 = .ok (.if_icmp .eq 21, 3) := by decide +kernel
theorem dX10_limit_5 : decode cX10_limit 5 = .ok (.iload_n 2, 1) := by decide +kernel
theorem dX10_limit_6 : decode cX10_limit 6 = .ok (.bipush 40, 2) := by decide +kernel
theorem dX10_limit_8 : decode cX10_limit 8 = .ok (.bipush 120, 2) := by decide +kernel
theorem dX10_limit_10 : decode cX10_limit 10 = .ok (.invokestatic 87, 3) := by decide +kernel
theorem dX10_limit_13 : decode cX10_limit 13 = .ok (.ifCond .eq 14, 3) := by decide +kernel
theorem dX10_limit_16 : decode cX10_limit 16 = .ok (.iload_n 2, 1) := by decide +kernel
theorem dX10_limit_17 : decode cX10_limit 17 = .ok (.bipush 20, 2) := by decide +kernel
theorem dX10_limit_19 : decode cX10_limit 19 = .ok (.irem, 1) := by decide +kernel
theorem dX10_limit_20 : decode cX10_limit 20 = .ok (.ifCond .ne 7, 3) := by decide +kernel
theorem dX10_limit_23 : decode cX10_limit 23 = .ok (.iconst 1, 1) := by decide +kernel
theorem dX10_limit_24 : decode cX10_limit 24 = .ok (.goto 4, 3) := by decide +kernel
theorem dX10_limit_27 : decode cX10_limit 27 = .ok (.iconst 0, 1) := by decide +kernel
theorem dX10_limit_28 : decode cX10_limit 28 = .ok (.istore_n 3, 1) := by decide +kernel
theorem dX10_limit_29 : decode cX10_limit 29 = .ok (.aload_n 0, 1) := by decide +kernel
theorem dX10_limit_30 : decode cX10_limit 30 = .ok (.iload_n 1, 1) := by decide +kernel
theorem dX10_limit_31 : decode cX10_limit 31 = .ok (.invokestatic 91, 3) := by decide +kernel
theorem dX10_limit_34 : decode cX10_limit 34 = .ok (.ifCond .ne 7, 3) := by decide +kernel
theorem dX10_limit_37 : decode cX10_limit 37 = .ok (.iconst 1, 1) := by decide +kernel
theorem dX10_limit_38 : decode cX10_limit 38 = .ok (.goto 12, 3) := by decide +kernel
theorem dX10_limit_41 : decode cX10_limit 41 = .ok (.iload_n 3, 1) := by decide +kernel
theorem dX10_limit_42 : decode cX10_limit 42 = .ok (.ifCond .eq 7, 3) := by decide +kernel
theorem dX10_limit_45 : decode cX10_limit 45 = .ok (.iconst 0, 1) := by decide +kernel
theorem dX10_limit_46 : decode cX10_limit 46 = .ok (.goto 4, 3) := by decide +kernel
theorem dX10_limit_49 : decode cX10_limit 49 = .ok (.iconst 2, 1) := by decide +kernel
theorem dX10_limit_50 : decode cX10_limit 50 = .ok (.invokevirtual 171, 3) := by decide +kernel
theorem dX10_limit_53 : decode cX10_limit 53 = .ok (.ifCond .ne 5, 3) := by decide +kernel
theorem dX10_limit_56 : decode cX10_limit 56 = .ok (.iconst 0, 1) := by decide +kernel
theorem dX10_limit_57 : decode cX10_limit 57 = .ok (.ireturn, 1) := by decide +kernel
theorem dX10_limit_58 : decode cX10_limit 58 = .ok (.aload_n 0, 1) := by decide +kernel
theorem dX10_limit_59 : decode cX10_limit 59 = .ok (.getfield 38, 3) := by decide +kernel
theorem dX10_limit_62 : decode cX10_limit 62 = .ok (.iload_n 1, 1) := by decide +kernel
theorem dX10_limit_63 : decode cX10_limit 63 = .ok (.iaload, 1) := by decide +kernel
theorem dX10_limit_64 : decode cX10_limit 64 = .ok (.istore 4, 2) := by decide +kernel
theorem dX10_limit_66 : decode cX10_limit 66 = .ok (.aload_n 0, 1) := by decide +kernel
theorem dX10_limit_67 : decode cX10_limit 67 = .ok (.getfield 38, 3) := by decide +kernel
theorem dX10_limit_70 : decode cX10_limit 70 = .ok (.iload_n 1, 1) := by decide +kernel
theorem dX10_limit_71 : decode cX10_limit 71 = .ok (.iload_n 2, 1) := by decide +kernel
theorem dX10_limit_72 : decode cX10_limit 72 = .ok (.iastore, 1) := by decide +kernel
theorem dX10_limit_73 : decode cX10_limit 73 = .ok (.iload 4, 2) := by decide +kernel
theorem dX10_limit_75 : decode cX10_limit 75 = .ok (.ireturn, 1) := by decide +kernel
theorem dX10_order_0 : decode cX10_order 0 = .ok (.aload_n 0, 1) := by decide +kernel
theorem dX10_order_1 : decode cX10_order 1 = .ok (.iload_n 1, 1) := by decide +kernel
theorem dX10_order_2 : decode cX10_order 2 = .ok (.iload_n 2, 1) := by decide +kernel
theorem dX10_order_3 : decode cX10_order 3 = .ok (.invokestatic 177, 3) := by decide +kernel
theorem dX10_order_6 : decode cX10_order 6 = .ok (.ifCond .ne 7, 3) := by decide +kernel
theorem dX10_order_9 : decode cX10_order 9 = .ok (.iconst 1, 1) := by decide +kernel
theorem dX10_order_10 : decode cX10_order 10 = .ok (.goto 30, 3) := by decide +kernel
theorem dX10_order_13 : decode cX10_order 13 = .ok (.iload_n 3, 1) := by decide +kernel
theorem dX10_order_14 : decode cX10_order 14 = .ok (.iconst (-1), 1) := by decide +kernel
theorem dX10_order_15 : decode cX10_order 15 = .ok (.iconst 2, 1) := by decide +kernel
theorem dX10_order_16 : decode cX10_order 16 = .ok (.invokestatic 87, 3) := by decide +kernel
theorem dX10_order_19 : decode cX10_order 19 = .ok (.ifCond .ne 7, 3) := by decide +kernel
theorem dX10_order_22 : decode cX10_order 22 = .ok (.iconst 2, 1) := by decide +kernel
theorem dX10_order_23 : decode cX10_order 23 = .ok (.goto 17, 3) := by decide +kernel
theorem dX10_order_26 : decode cX10_order 26 = .ok (.iload_n 3, 1) := by decide +kernel
theorem dX10_order_27 : decode cX10_order 27 = .ok (.iconst 2, 1) := by decide +kernel
theorem dX10_order_28 : decode cX10_order 28 = .ok (.if_icmp .ne 11, 3) := by decide +kernel
theorem dX10_order_31 : decode cX10_order 31 = .ok (.iload_n 1, 1) := by decide +kernel
theorem dX10_order_32 : decode cX10_order 32 = .ok (.ifCond .ne 7, 3) := by decide +kernel
theorem dX10_order_35 : decode cX10_order 35 = .ok (.iconst 3, 1) := by decide +kernel
theorem dX10_order_36 : decode cX10_order 36 = .ok (.goto 4, 3) := by decide +kernel
theorem dX10_order_39 : decode cX10_order 39 = .ok (.iconst 0, 1) := by decide +kernel
theorem dX10_order_40 : decode cX10_order 40 = .ok (.invokevirtual 171, 3) := by decide +kernel
theorem dX10_order_43 : decode cX10_order 43 = .ok (.ifCond .ne 5, 3) := by decide +kernel
theorem dX10_order_46 : decode cX10_order 46 = .ok (.iconst 0, 1) := by decide +kernel
theorem dX10_order_47 : decode cX10_order 47 = .ok (.ireturn, 1) := by decide +kernel
theorem dX10_order_48 : decode cX10_order 48 = .ok (.iconst 4, 1) := by decide +kernel
theorem dX10_order_49 : decode cX10_order 49 = .ok (.iload_n 1, 1) := by decide +kernel
theorem dX10_order_50 : decode cX10_order 50 = .ok (.imul, 1) := by decide +kernel
theorem dX10_order_51 : decode cX10_order 51 = .ok (.iload_n 2, 1) := by decide +kernel
theorem dX10_order_52 : decode cX10_order 52 = .ok (.iadd, 1) := by decide +kernel
theorem dX10_order_53 : decode cX10_order 53 = .ok (.istore 4, 2) := by decide +kernel
theorem dX10_order_55 : decode cX10_order 55 = .ok (.aload_n 0, 1) := by decide +kernel
theorem dX10_order_56 : decode cX10_order 56 = .ok (.getfield 17, 3) := by decide +kernel
theorem dX10_order_59 : decode cX10_order 59 = .ok (.iload 4, 2) := by decide +kernel
theorem dX10_order_61 : decode cX10_order 61 = .ok (.iaload, 1) := by decide +kernel
theorem dX10_order_62 : decode cX10_order 62 = .ok (.istore 5, 2) := by decide +kernel
theorem dX10_order_64 : decode cX10_order 64 = .ok (.aload_n 0, 1) := by decide +kernel
theorem dX10_order_65 : decode cX10_order 65 = .ok (.getfield 17, 3) := by decide +kernel
theorem dX10_order_68 : decode cX10_order 68 = .ok (.iload 4, 2) := by decide +kernel
theorem dX10_order_70 : decode cX10_order 70 = .ok (.iload_n 3, 1) := by decide +kernel
theorem dX10_order_71 : decode cX10_order 71 = .ok (.iastore, 1) := by decide +kernel
theorem dX10_order_72 : decode cX10_order 72 = .ok (.iload 5, 2) := by decide +kernel
theorem dX10_order_74 : decode cX10_order 74 = .ok (.ireturn, 1) := by decide +kernel
theorem dX10_sign_0 : decode cX10_sign 0 = .ok (.aload_n 0, 1) := by decide +kernel
theorem dX10_sign_1 : decode cX10_sign 1 = .ok (.iload_n 1, 1) := by decide +kernel
theorem dX10_sign_2 : decode cX10_sign 2 = .ok (.iload_n 2, 1) := by decide +kernel
theorem dX10_sign_3 : decode cX10_sign 3 = .ok (.invokestatic 177, 3) := by decide +kernel
theorem dX10_sign_6 : decode cX10_sign 6 = .ok (.ifCond .eq 7, 3) := by decide +kernel
theorem dX10_sign_9 : decode cX10_sign 9 = .ok (.iconst 0, 1) := by decide +kernel
theorem dX10_sign_10 : decode cX10_sign 10 = .ok (.goto 4, 3) := by decide +kernel
theorem dX10_sign_13 : decode cX10_sign 13 = .ok (.iconst 1, 1) := by decide +kernel
theorem dX10_sign_14 : decode cX10_sign 14 = .ok (.invokevirtual 171, 3) := by decide +kernel
theorem dX10_sign_17 : decode cX10_sign 17 = .ok (.ifCond .eq 12, 3) := by decide +kernel
theorem dX10_sign_20 : decode cX10_sign 20 = .ok (.aload_n 0, 1) := by decide +kernel
theorem dX10_sign_21 : decode cX10_sign 21 = .ok (.iload_n 1, 1) := by decide +kernel
theorem dX10_sign_22 : decode cX10_sign 22 = .ok (.iload_n 2, 1) := by decide +kernel
theorem dX10_sign_23 : decode cX10_sign 23 = .ok (.invokevirtual 118, 3) := by decide +kernel
theorem dX10_sign_26 : decode cX10_sign 26 = .ok (.goto 4, 3) := by decide +kernel
theorem dX10_sign_29 : decode cX10_sign 29 = .ok (.iconst 0, 1) := by decide +kernel
theorem dX10_sign_30 : decode cX10_sign 30 = .ok (.ireturn, 1) := by decide +kernel
theorem dX10_isLawful_0 : decode cX10_isLawful 0 = .ok (.aload_n 0, 1) := by decide +kernel
theorem dX10_isLawful_1 : decode cX10_isLawful 1 = .ok (.iconst 0, 1) := by decide +kernel
theorem dX10_isLawful_2 : decode cX10_isLawful 2 = .ok (.putfield 83, 3) := by decide +kernel
theorem dX10_isLawful_5 : decode cX10_isLawful 5 = .ok (.iconst 1, 1) := by decide +kernel
theorem dX10_isLawful_6 : decode cX10_isLawful 6 = .ok (.istore_n 1, 1) := by decide +kernel
theorem dX10_isLawful_7 : decode cX10_isLawful 7 = .ok (.iconst 0, 1) := by decide +kernel
theorem dX10_isLawful_8 : decode cX10_isLawful 8 = .ok (.istore_n 2, 1) := by decide +kernel
theorem dX10_isLawful_9 : decode cX10_isLawful 9 = .ok (.iload_n 2, 1) := by decide +kernel
theorem dX10_isLawful_10 : decode cX10_isLawful 10 = .ok (.bipush 11, 2) := by decide +kernel
theorem dX10_isLawful_12 : decode cX10_isLawful 12 = .ok (.if_icmp .ge 83, 3) := by decide +kernel
theorem dX10_isLawful_15 : decode cX10_isLawful 15 = .ok (.iload_n 1, 1) := by decide +kernel
theorem dX10_isLawful_16 : decode cX10_isLawful 16 = .ok (.ifCond .eq 27, 3) := by decide +kernel
theorem dX10_isLawful_19 : decode cX10_isLawful 19 = .ok (.aload_n 0, 1) := by decide +kernel
theorem dX10_isLawful_20 : decode cX10_isLawful 20 = .ok (.getfield 41, 3) := by decide +kernel
theorem dX10_isLawful_23 : decode cX10_isLawful 23 = .ok (.iload_n 2, 1) := by decide +kernel
theorem dX10_isLawful_24 : decode cX10_isLawful 24 = .ok (.iaload, 1) := by decide +kernel
theorem dX10_isLawful_25 : decode cX10_isLawful 25 = .ok (.aload_n 0, 1) := by decide +kernel
theorem dX10_isLawful_26 : decode cX10_isLawful 26 = .ok (.getfield 41, 3) := by decide +kernel
theorem dX10_isLawful_29 : decode cX10_isLawful 29 = .ok (.iload_n 2, 1) := by decide +kernel
theorem dX10_isLawful_30 : decode cX10_isLawful 30 = .ok (.iconst 1, 1) := by decide +kernel
theorem dX10_isLawful_31 : decode cX10_isLawful 31 = .ok (.iadd, 1) := by decide +kernel
theorem dX10_isLawful_32 : decode cX10_isLawful 32 = .ok (.iaload, 1) := by decide +kernel
theorem dX10_isLawful_33 : decode cX10_isLawful 33 = .ok (.bipush 20, 2) := by decide +kernel
theorem dX10_isLawful_35 : decode cX10_isLawful 35 = .ok (.iadd, 1) := by decide +kernel
theorem dX10_isLawful_36 : decode cX10_isLawful 36 = .ok (.if_icmp .gt 7, 3) := by decide +kernel
theorem dX10_isLawful_39 : decode cX10_isLawful 39 = .ok (.iconst 1, 1) := by decide +kernel
theorem dX10_isLawful_40 : decode cX10_isLawful 40 = .ok (.goto 4, 3) := by decide +kernel
theorem dX10_isLawful_43 : decode cX10_isLawful 43 = .ok (.iconst 0, 1) := by decide +kernel
theorem dX10_isLawful_44 : decode cX10_isLawful 44 = .ok (.istore_n 1, 1) := by decide +kernel
theorem dX10_isLawful_45 : decode cX10_isLawful 45 = .ok (.iconst 0, 1) := by decide +kernel
theorem dX10_isLawful_46 : decode cX10_isLawful 46 = .ok (.istore_n 3, 1) := by decide +kernel
theorem dX10_isLawful_47 : decode cX10_isLawful 47 = .ok (.iload_n 3, 1) := by decide +kernel
theorem dX10_isLawful_48 : decode cX10_isLawful 48 = .ok (.iconst 4, 1) := by decide +kernel
theorem dX10_isLawful_49 : decode cX10_isLawful 49 = .ok (.if_icmp .ge 40, 3) := by decide +kernel
theorem dX10_isLawful_52 : decode cX10_isLawful 52 = .ok (.iload_n 1, 1) := by decide +kernel
theorem dX10_isLawful_53 : decode cX10_isLawful 53 = .ok (.ifCond .eq 28, 3) := by decide +kernel
theorem dX10_isLawful_56 : decode cX10_isLawful 56 = .ok (.aload_n 0, 1) := by decide +kernel
theorem dX10_isLawful_57 : decode cX10_isLawful 57 = .ok (.iload_n 2, 1) := by decide +kernel
theorem dX10_isLawful_58 : decode cX10_isLawful 58 = .ok (.iconst 1, 1) := by decide +kernel
theorem dX10_isLawful_59 : decode cX10_isLawful 59 = .ok (.iadd, 1) := by decide +kernel
theorem dX10_isLawful_60 : decode cX10_isLawful 60 = .ok (.iload_n 3, 1) := by decide +kernel
theorem dX10_isLawful_61 : decode cX10_isLawful 61 = .ok (.invokevirtual 118, 3) := by decide +kernel
theorem dX10_isLawful_64 : decode cX10_isLawful 64 = .ok (.iconst 2, 1) := by decide +kernel
theorem dX10_isLawful_65 : decode cX10_isLawful 65 = .ok (.if_icmp .ne 12, 3) := by decide +kernel
theorem dX10_isLawful_68 : decode cX10_isLawful 68 = .ok (.aload_n 0, 1) := by decide +kernel
theorem dX10_isLawful_69 : decode cX10_isLawful 69 = .ok (.iload_n 2, 1) := by decide +kernel
theorem dX10_isLawful_70 : decode cX10_isLawful 70 = .ok (.iload_n 3, 1) := by decide +kernel
theorem dX10_isLawful_71 : decode cX10_isLawful 71 = .ok (.invokevirtual 118, 3) := by decide +kernel
theorem dX10_isLawful_74 : decode cX10_isLawful 74 = .ok (.ifCond .eq 7, 3) := by decide +kernel
theorem dX10_isLawful_77 : decode cX10_isLawful 77 = .ok (.iconst 1, 1) := by decide +kernel
theorem dX10_isLawful_78 : decode cX10_isLawful 78 = .ok (.goto 4, 3) := by decide +kernel
theorem dX10_isLawful_81 : decode cX10_isLawful 81 = .ok (.iconst 0, 1) := by decide +kernel
theorem dX10_isLawful_82 : decode cX10_isLawful 82 = .ok (.istore_n 1, 1) := by decide +kernel
theorem dX10_isLawful_83 : decode cX10_isLawful 83 = .ok (.iinc 3 1, 3) := by decide +kernel
theorem dX10_isLawful_86 : decode cX10_isLawful 86 = .ok (.goto (-39), 3) := by decide +kernel
theorem dX10_isLawful_89 : decode cX10_isLawful 89 = .ok (.iinc 2 1, 3) := by decide +kernel
theorem dX10_isLawful_92 : decode cX10_isLawful 92 = .ok (.goto (-83), 3) := by decide +kernel
theorem dX10_isLawful_95 : decode cX10_isLawful 95 = .ok (.iload_n 1, 1) := by decide +kernel
theorem dX10_isLawful_96 : decode cX10_isLawful 96 = .ok (.ireturn, 1) := by decide +kernel
theorem dX10_look_0 : decode cX10_look 0 = .ok (.aload_n 0, 1) := by decide +kernel
theorem dX10_look_1 : decode cX10_look 1 = .ok (.iload_n 1, 1) := by decide +kernel
theorem dX10_look_2 : decode cX10_look 2 = .ok (.invokestatic 91, 3) := by decide +kernel
theorem dX10_look_5 : decode cX10_look 5 = .ok (.ifCond .eq 7, 3) := by decide +kernel
theorem dX10_look_8 : decode cX10_look 8 = .ok (.iconst 0, 1) := by decide +kernel
theorem dX10_look_9 : decode cX10_look 9 = .ok (.goto 4, 3) := by decide +kernel
theorem dX10_look_12 : decode cX10_look 12 = .ok (.iconst 1, 1) := by decide +kernel
theorem dX10_look_13 : decode cX10_look 13 = .ok (.invokevirtual 171, 3) := by decide +kernel
theorem dX10_look_16 : decode cX10_look 16 = .ok (.ifCond .ne 5, 3) := by decide +kernel
theorem dX10_look_19 : decode cX10_look 19 = .ok (.iconst 0, 1) := by decide +kernel
theorem dX10_look_20 : decode cX10_look 20 = .ok (.ireturn, 1) := by decide +kernel
theorem dX10_look_21 : decode cX10_look 21 = .ok (.aload_n 0, 1) := by decide +kernel
theorem dX10_look_22 : decode cX10_look 22 = .ok (.getfield 26, 3) := by decide +kernel
theorem dX10_look_25 : decode cX10_look 25 = .ok (.iload_n 1, 1) := by decide +kernel
theorem dX10_look_26 : decode cX10_look 26 = .ok (.aload_n 0, 1) := by decide +kernel
theorem dX10_look_27 : decode cX10_look 27 = .ok (.getfield 95, 3) := by decide +kernel
theorem dX10_look_30 : decode cX10_look 30 = .ok (.iastore, 1) := by decide +kernel
theorem dX10_look_31 : decode cX10_look 31 = .ok (.aload_n 0, 1) := by decide +kernel
theorem dX10_look_32 : decode cX10_look 32 = .ok (.getfield 29, 3) := by decide +kernel
theorem dX10_look_35 : decode cX10_look 35 = .ok (.iload_n 1, 1) := by decide +kernel
theorem dX10_look_36 : decode cX10_look 36 = .ok (.aload_n 0, 1) := by decide +kernel
theorem dX10_look_37 : decode cX10_look 37 = .ok (.getfield 13, 3) := by decide +kernel
theorem dX10_look_40 : decode cX10_look 40 = .ok (.iconst 4, 1) := by decide +kernel
theorem dX10_look_41 : decode cX10_look 41 = .ok (.iload_n 1, 1) := by decide +kernel
theorem dX10_look_42 : decode cX10_look 42 = .ok (.imul, 1) := by decide +kernel
theorem dX10_look_43 : decode cX10_look 43 = .ok (.baload, 1) := by decide +kernel
theorem dX10_look_44 : decode cX10_look 44 = .ok (.ifCond .ne 18, 3) := by decide +kernel
theorem dX10_look_47 : decode cX10_look 47 = .ok (.aload_n 0, 1) := by decide +kernel
theorem dX10_look_48 : decode cX10_look 48 = .ok (.getfield 7, 3) := by decide +kernel
theorem dX10_look_51 : decode cX10_look 51 = .ok (.iconst 4, 1) := by decide +kernel
theorem dX10_look_52 : decode cX10_look 52 = .ok (.iload_n 1, 1) := by decide +kernel
theorem dX10_look_53 : decode cX10_look 53 = .ok (.imul, 1) := by decide +kernel
theorem dX10_look_54 : decode cX10_look 54 = .ok (.iaload, 1) := by decide +kernel
theorem dX10_look_55 : decode cX10_look 55 = .ok (.ifCond .ne 7, 3) := by decide +kernel
theorem dX10_look_58 : decode cX10_look 58 = .ok (.iconst 1, 1) := by decide +kernel
theorem dX10_look_59 : decode cX10_look 59 = .ok (.goto 4, 3) := by decide +kernel
theorem dX10_look_62 : decode cX10_look 62 = .ok (.iconst 0, 1) := by decide +kernel
theorem dX10_look_63 : decode cX10_look 63 = .ok (.bastore, 1) := by decide +kernel
theorem dX10_look_64 : decode cX10_look 64 = .ok (.aload_n 0, 1) := by decide +kernel
theorem dX10_look_65 : decode cX10_look 65 = .ok (.getfield 29, 3) := by decide +kernel
theorem dX10_look_68 : decode cX10_look 68 = .ok (.iload_n 1, 1) := by decide +kernel
theorem dX10_look_69 : decode cX10_look 69 = .ok (.baload, 1) := by decide +kernel
theorem dX10_look_70 : decode cX10_look 70 = .ok (.ireturn, 1) := by decide +kernel
theorem dX10_canOpen_0 : decode cX10_canOpen 0 = .ok (.iconst 1, 1) := by decide +kernel
theorem dX10_canOpen_1 : decode cX10_canOpen 1 = .ok (.istore_n 3, 1) := by decide +kernel
theorem dX10_canOpen_2 : decode cX10_canOpen 2 = .ok (.iload_n 1, 1) := by decide +kernel
theorem dX10_canOpen_3 : decode cX10_canOpen 3 = .ok (.istore 4, 2) := by decide +kernel
theorem dX10_canOpen_5 : decode cX10_canOpen 5 = .ok (.iload 4, 2) := by decide +kernel
theorem dX10_canOpen_7 : decode cX10_canOpen 7 = .ok (.iload_n 2, 1) := by decide +kernel
theorem dX10_canOpen_8 : decode cX10_canOpen 8 = .ok (.if_icmp .gt 45, 3) := by decide +kernel
theorem dX10_canOpen_11 : decode cX10_canOpen 11 = .ok (.iload_n 3, 1) := by decide +kernel
theorem dX10_canOpen_12 : decode cX10_canOpen 12 = .ok (.ifCond .eq 33, 3) := by decide +kernel
theorem dX10_canOpen_15 : decode cX10_canOpen 15 = .ok (.aload_n 0, 1) := by decide +kernel
theorem dX10_canOpen_16 : decode cX10_canOpen 16 = .ok (.getfield 95, 3) := by decide +kernel
theorem dX10_canOpen_19 : decode cX10_canOpen 19 = .ok (.aload_n 0, 1) := by decide +kernel
theorem dX10_canOpen_20 : decode cX10_canOpen 20 = .ok (.getfield 26, 3) := by decide +kernel
theorem dX10_canOpen_23 : decode cX10_canOpen 23 = .ok (.iload 4, 2) := by decide +kernel
theorem dX10_canOpen_25 : decode cX10_canOpen 25 = .ok (.iaload, 1) := by decide +kernel
theorem dX10_canOpen_26 : decode cX10_canOpen 26 = .ok (.isub, 1) := by decide +kernel
theorem dX10_canOpen_27 : decode cX10_canOpen 27 = .ok (.iconst 5, 1) := by decide +kernel
theorem dX10_canOpen_28 : decode cX10_canOpen 28 = .ok (.if_icmp .ge 17, 3) := by decide +kernel
theorem dX10_canOpen_31 : decode cX10_canOpen 31 = .ok (.aload_n 0, 1) := by decide +kernel
theorem dX10_canOpen_32 : decode cX10_canOpen 32 = .ok (.getfield 29, 3) := by decide +kernel
theorem dX10_canOpen_35 : decode cX10_canOpen 35 = .ok (.iload 4, 2) := by decide +kernel
theorem dX10_canOpen_37 : decode cX10_canOpen 37 = .ok (.baload, 1) := by decide +kernel
theorem dX10_canOpen_38 : decode cX10_canOpen 38 = .ok (.ifCond .eq 7, 3) := by decide +kernel
theorem dX10_canOpen_41 : decode cX10_canOpen 41 = .ok (.iconst 1, 1) := by decide +kernel
theorem dX10_canOpen_42 : decode cX10_canOpen 42 = .ok (.goto 4, 3) := by decide +kernel
theorem dX10_canOpen_45 : decode cX10_canOpen 45 = .ok (.iconst 0, 1) := by decide +kernel
theorem dX10_canOpen_46 : decode cX10_canOpen 46 = .ok (.istore_n 3, 1) := by decide +kernel
theorem dX10_canOpen_47 : decode cX10_canOpen 47 = .ok (.iinc 4 1, 3) := by decide +kernel
theorem dX10_canOpen_50 : decode cX10_canOpen 50 = .ok (.goto (-45), 3) := by decide +kernel
theorem dX10_canOpen_53 : decode cX10_canOpen 53 = .ok (.iload_n 3, 1) := by decide +kernel
theorem dX10_canOpen_54 : decode cX10_canOpen 54 = .ok (.ireturn, 1) := by decide +kernel
theorem dX10_openShoulder_0 : decode cX10_openShoulder 0 = .ok (.iload_n 1, 1) := by decide +kernel
theorem dX10_openShoulder_1 : decode cX10_openShoulder 1 = .ok (.invokestatic 91, 3) := by decide +kernel
theorem dX10_openShoulder_4 : decode cX10_openShoulder 4 = .ok (.ifCond .eq 14, 3) := by decide +kernel
theorem dX10_openShoulder_7 : decode cX10_openShoulder 7 = .ok (.iload_n 2, 1) := by decide +kernel
theorem dX10_openShoulder_8 : decode cX10_openShoulder 8 = .ok (.invokestatic 91, 3) := by decide +kernel
theorem dX10_openShoulder_11 : decode cX10_openShoulder 11 = .ok (.ifCond .eq 7, 3) := by decide +kernel
theorem dX10_openShoulder_14 : decode cX10_openShoulder 14 = .ok (.iconst 1, 1) := by decide +kernel
theorem dX10_openShoulder_15 : decode cX10_openShoulder 15 = .ok (.goto 4, 3) := by decide +kernel
theorem dX10_openShoulder_18 : decode cX10_openShoulder 18 = .ok (.iconst 0, 1) := by decide +kernel
theorem dX10_openShoulder_19 : decode cX10_openShoulder 19 = .ok (.istore_n 3, 1) := by decide +kernel
theorem dX10_openShoulder_20 : decode cX10_openShoulder 20 = .ok (.aload_n 0, 1) := by decide +kernel
theorem dX10_openShoulder_21 : decode cX10_openShoulder 21 = .ok (.iload_n 3, 1) := by decide +kernel
theorem dX10_openShoulder_22 : decode cX10_openShoulder 22 = .ok (.ifCond .ne 7, 3) := by decide +kernel
theorem dX10_openShoulder_25 : decode cX10_openShoulder 25 = .ok (.iconst 1, 1) := by decide +kernel
theorem dX10_openShoulder_26 : decode cX10_openShoulder 26 = .ok (.goto 26, 3) := by decide +kernel
theorem dX10_openShoulder_29 : decode cX10_openShoulder 29 = .ok (.iload_n 2, 1) := by decide +kernel
theorem dX10_openShoulder_30 : decode cX10_openShoulder 30 = .ok (.iload_n 1, 1) := by decide +kernel
theorem dX10_openShoulder_31 : decode cX10_openShoulder 31 = .ok (.if_icmp .ge 7, 3) := by decide +kernel
theorem dX10_openShoulder_34 : decode cX10_openShoulder 34 = .ok (.iconst 2, 1) := by decide +kernel
theorem dX10_openShoulder_35 : decode cX10_openShoulder 35 = .ok (.goto 17, 3) := by decide +kernel
theorem dX10_openShoulder_38 : decode cX10_openShoulder 38 = .ok (.aload_n 0, 1) := by decide +kernel
theorem dX10_openShoulder_39 : decode cX10_openShoulder 39 = .ok (.iload_n 1, 1) := by decide +kernel
theorem dX10_openShoulder_40 : decode cX10_openShoulder 40 = .ok (.iload_n 2, 1) := by decide +kernel
theorem dX10_openShoulder_41 : decode cX10_openShoulder 41 = .ok (.invokevirtual 180, 3) := by decide +kernel
theorem dX10_openShoulder_44 : decode cX10_openShoulder 44 = .ok (.ifCond .eq 7, 3) := by decide +kernel
theorem dX10_openShoulder_47 : decode cX10_openShoulder 47 = .ok (.iconst 0, 1) := by decide +kernel
theorem dX10_openShoulder_48 : decode cX10_openShoulder 48 = .ok (.goto 4, 3) := by decide +kernel
theorem dX10_openShoulder_51 : decode cX10_openShoulder 51 = .ok (.iconst 3, 1) := by decide +kernel
theorem dX10_openShoulder_52 : decode cX10_openShoulder 52 = .ok (.invokevirtual 171, 3) := by decide +kernel
theorem dX10_openShoulder_55 : decode cX10_openShoulder 55 = .ok (.ifCond .ne 5, 3) := by decide +kernel
theorem dX10_openShoulder_58 : decode cX10_openShoulder 58 = .ok (.iconst 0, 1) := by decide +kernel
theorem dX10_openShoulder_59 : decode cX10_openShoulder 59 = .ok (.ireturn, 1) := by decide +kernel
theorem dX10_openShoulder_60 : decode cX10_openShoulder 60 = .ok (.iconst 0, 1) := by decide +kernel
theorem dX10_openShoulder_61 : decode cX10_openShoulder 61 = .ok (.istore 4, 2) := by decide +kernel
theorem dX10_openShoulder_63 : decode cX10_openShoulder 63 = .ok (.iload_n 1, 1) := by decide +kernel
theorem dX10_openShoulder_64 : decode cX10_openShoulder 64 = .ok (.istore 5, 2) := by decide +kernel
theorem dX10_openShoulder_66 : decode cX10_openShoulder 66 = .ok (.iload 5, 2) := by decide +kernel
theorem dX10_openShoulder_68 : decode cX10_openShoulder 68 = .ok (.iload_n 2, 1) := by decide +kernel
theorem dX10_openShoulder_69 : decode cX10_openShoulder 69 = .ok (.if_icmp .gt 37, 3) := by decide +kernel
theorem dX10_openShoulder_72 : decode cX10_openShoulder 72 = .ok (.iload 4, 2) := by decide +kernel
theorem dX10_openShoulder_74 : decode cX10_openShoulder 74 = .ok (.aload_n 0, 1) := by decide +kernel
theorem dX10_openShoulder_75 : decode cX10_openShoulder 75 = .ok (.getfield 23, 3) := by decide +kernel
theorem dX10_openShoulder_78 : decode cX10_openShoulder 78 = .ok (.iload 5, 2) := by decide +kernel
theorem dX10_openShoulder_80 : decode cX10_openShoulder 80 = .ok (.baload, 1) := by decide +kernel
theorem dX10_openShoulder_81 : decode cX10_openShoulder 81 = .ok (.ifCond .eq 7, 3) := by decide +kernel
theorem dX10_openShoulder_84 : decode cX10_openShoulder 84 = .ok (.iconst 0, 1) := by decide +kernel
theorem dX10_openShoulder_85 : decode cX10_openShoulder 85 = .ok (.goto 4, 3) := by decide +kernel
theorem dX10_openShoulder_88 : decode cX10_openShoulder 88 = .ok (.iconst 1, 1) := by decide +kernel
theorem dX10_openShoulder_89 : decode cX10_openShoulder 89 = .ok (.iadd, 1) := by decide +kernel
theorem dX10_openShoulder_90 : decode cX10_openShoulder 90 = .ok (.istore 4, 2) := by decide +kernel
theorem dX10_openShoulder_92 : decode cX10_openShoulder 92 = .ok (.aload_n 0, 1) := by decide +kernel
theorem dX10_openShoulder_93 : decode cX10_openShoulder 93 = .ok (.getfield 23, 3) := by decide +kernel
theorem dX10_openShoulder_96 : decode cX10_openShoulder 96 = .ok (.iload 5, 2) := by decide +kernel
theorem dX10_openShoulder_98 : decode cX10_openShoulder 98 = .ok (.iconst 1, 1) := by decide +kernel
theorem dX10_openShoulder_99 : decode cX10_openShoulder 99 = .ok (.bastore, 1) := by decide +kernel
theorem dX10_openShoulder_100 : decode cX10_openShoulder 100 = .ok (.iinc 5 1, 3) := by decide +kernel
theorem dX10_openShoulder_103 : decode cX10_openShoulder 103 = .ok (.goto (-37), 3) := by decide +kernel
theorem dX10_openShoulder_106 : decode cX10_openShoulder 106 = .ok (.iload 4, 2) := by decide +kernel
theorem dX10_openShoulder_108 : decode cX10_openShoulder 108 = .ok (.ireturn, 1) := by decide +kernel
theorem dX10_shuts_0 : decode cX10_shuts 0 = .ok (.iconst 0, 1) := by decide +kernel
theorem dX10_shuts_1 : decode cX10_shuts 1 = .ok (.istore_n 1, 1) := by decide +kernel
theorem dX10_shuts_2 : decode cX10_shuts 2 = .ok (.iconst 0, 1) := by decide +kernel
theorem dX10_shuts_3 : decode cX10_shuts 3 = .ok (.istore_n 2, 1) := by decide +kernel
theorem dX10_shuts_4 : decode cX10_shuts 4 = .ok (.iload_n 2, 1) := by decide +kernel
theorem dX10_shuts_5 : decode cX10_shuts 5 = .ok (.bipush 12, 2) := by decide +kernel
theorem dX10_shuts_7 : decode cX10_shuts 7 = .ok (.if_icmp .ge 33, 3) := by decide +kernel
theorem dX10_shuts_10 : decode cX10_shuts 10 = .ok (.iload_n 1, 1) := by decide +kernel
theorem dX10_shuts_11 : decode cX10_shuts 11 = .ok (.aload_n 0, 1) := by decide +kernel
theorem dX10_shuts_12 : decode cX10_shuts 12 = .ok (.getfield 23, 3) := by decide +kernel
theorem dX10_shuts_15 : decode cX10_shuts 15 = .ok (.iload_n 2, 1) := by decide +kernel
theorem dX10_shuts_16 : decode cX10_shuts 16 = .ok (.baload, 1) := by decide +kernel
theorem dX10_shuts_17 : decode cX10_shuts 17 = .ok (.ifCond .eq 7, 3) := by decide +kernel
theorem dX10_shuts_20 : decode cX10_shuts 20 = .ok (.iconst 1, 1) := by decide +kernel
theorem dX10_shuts_21 : decode cX10_shuts 21 = .ok (.goto 4, 3) := by decide +kernel
theorem dX10_shuts_24 : decode cX10_shuts 24 = .ok (.iconst 0, 1) := by decide +kernel
theorem dX10_shuts_25 : decode cX10_shuts 25 = .ok (.iadd, 1) := by decide +kernel
theorem dX10_shuts_26 : decode cX10_shuts 26 = .ok (.istore_n 1, 1) := by decide +kernel
theorem dX10_shuts_27 : decode cX10_shuts 27 = .ok (.aload_n 0, 1) := by decide +kernel
theorem dX10_shuts_28 : decode cX10_shuts 28 = .ok (.getfield 23, 3) := by decide +kernel
theorem dX10_shuts_31 : decode cX10_shuts 31 = .ok (.iload_n 2, 1) := by decide +kernel
theorem dX10_shuts_32 : decode cX10_shuts 32 = .ok (.iconst 0, 1) := by decide +kernel
theorem dX10_shuts_33 : decode cX10_shuts 33 = .ok (.bastore, 1) := by decide +kernel
theorem dX10_shuts_34 : decode cX10_shuts 34 = .ok (.iinc 2 1, 3) := by decide +kernel
theorem dX10_shuts_37 : decode cX10_shuts 37 = .ok (.goto (-33), 3) := by decide +kernel
theorem dX10_shuts_40 : decode cX10_shuts 40 = .ok (.iload_n 1, 1) := by decide +kernel
theorem dX10_shuts_41 : decode cX10_shuts 41 = .ok (.ireturn, 1) := by decide +kernel
theorem dX10_shutShoulder_0 : decode cX10_shutShoulder 0 = .ok (.aload_n 0, 1) := by decide +kernel
theorem dX10_shutShoulder_1 : decode cX10_shutShoulder 1 = .ok (.iconst 0, 1) := by decide +kernel
theorem dX10_shutShoulder_2 : decode cX10_shutShoulder 2 = .ok (.putfield 83, 3) := by decide +kernel
theorem dX10_shutShoulder_5 : decode cX10_shutShoulder 5 = .ok (.aload_n 0, 1) := by decide +kernel
theorem dX10_shutShoulder_6 : decode cX10_shutShoulder 6 = .ok (.invokevirtual 183, 3) := by decide +kernel
theorem dX10_shutShoulder_9 : decode cX10_shutShoulder 9 = .ok (.ireturn, 1) := by decide +kernel
theorem dX10_stop_0 : decode cX10_stop 0 = .ok (.iload_n 1, 1) := by decide +kernel
theorem dX10_stop_1 : decode cX10_stop 1 = .ok (.iload_n 2, 1) := by decide +kernel
theorem dX10_stop_2 : decode cX10_stop 2 = .ok (.invokestatic 177, 3) := by decide +kernel
theorem dX10_stop_5 : decode cX10_stop 5 = .ok (.istore_n 3, 1) := by decide +kernel
theorem dX10_stop_6 : decode cX10_stop 6 = .ok (.aload_n 0, 1) := by decide +kernel
theorem dX10_stop_7 : decode cX10_stop 7 = .ok (.iload_n 3, 1) := by decide +kernel
theorem dX10_stop_8 : decode cX10_stop 8 = .ok (.ifCond .ne 7, 3) := by decide +kernel
theorem dX10_stop_11 : decode cX10_stop 11 = .ok (.iconst 1, 1) := by decide +kernel
theorem dX10_stop_12 : decode cX10_stop 12 = .ok (.goto 21, 3) := by decide +kernel
theorem dX10_stop_15 : decode cX10_stop 15 = .ok (.aload_n 0, 1) := by decide +kernel
theorem dX10_stop_16 : decode cX10_stop 16 = .ok (.getfield 13, 3) := by decide +kernel
theorem dX10_stop_19 : decode cX10_stop 19 = .ok (.iconst 4, 1) := by decide +kernel
theorem dX10_stop_20 : decode cX10_stop 20 = .ok (.iload_n 1, 1) := by decide +kernel
theorem dX10_stop_21 : decode cX10_stop 21 = .ok (.imul, 1) := by decide +kernel
theorem dX10_stop_22 : decode cX10_stop 22 = .ok (.iload_n 2, 1) := by decide +kernel
theorem dX10_stop_23 : decode cX10_stop 23 = .ok (.iadd, 1) := by decide +kernel
theorem dX10_stop_24 : decode cX10_stop 24 = .ok (.baload, 1) := by decide +kernel
theorem dX10_stop_25 : decode cX10_stop 25 = .ok (.ifCond .eq 7, 3) := by decide +kernel
theorem dX10_stop_28 : decode cX10_stop 28 = .ok (.iconst 2, 1) := by decide +kernel
theorem dX10_stop_29 : decode cX10_stop 29 = .ok (.goto 4, 3) := by decide +kernel
theorem dX10_stop_32 : decode cX10_stop 32 = .ok (.iconst 0, 1) := by decide +kernel
theorem dX10_stop_33 : decode cX10_stop 33 = .ok (.invokevirtual 171, 3) := by decide +kernel
theorem dX10_stop_36 : decode cX10_stop 36 = .ok (.ifCond .eq 30, 3) := by decide +kernel
theorem dX10_stop_39 : decode cX10_stop 39 = .ok (.aload_n 0, 1) := by decide +kernel
theorem dX10_stop_40 : decode cX10_stop 40 = .ok (.getfield 13, 3) := by decide +kernel
theorem dX10_stop_43 : decode cX10_stop 43 = .ok (.iconst 4, 1) := by decide +kernel
theorem dX10_stop_44 : decode cX10_stop 44 = .ok (.iload_n 1, 1) := by decide +kernel
theorem dX10_stop_45 : decode cX10_stop 45 = .ok (.imul, 1) := by decide +kernel
theorem dX10_stop_46 : decode cX10_stop 46 = .ok (.iload_n 2, 1) := by decide +kernel
theorem dX10_stop_47 : decode cX10_stop 47 = .ok (.iadd, 1) := by decide +kernel
theorem dX10_stop_48 : decode cX10_stop 48 = .ok (.iconst 1, 1) := by decide +kernel
theorem dX10_stop_49 : decode cX10_stop 49 = .ok (.bastore, 1) := by decide +kernel
theorem dX10_stop_50 : decode cX10_stop 50 = .ok (.iload_n 2, 1) := by decide +kernel
theorem dX10_stop_51 : decode cX10_stop 51 = .ok (.ifCond .ne 15, 3) := by decide +kernel
theorem dX10_stop_54 : decode cX10_stop 54 = .ok (.aload_n 0, 1) := by decide +kernel
theorem dX10_stop_55 : decode cX10_stop 55 = .ok (.getfield 29, 3) := by decide +kernel
theorem dX10_stop_58 : decode cX10_stop 58 = .ok (.iload_n 1, 1) := by decide +kernel
theorem dX10_stop_59 : decode cX10_stop 59 = .ok (.iconst 0, 1) := by decide +kernel
theorem dX10_stop_60 : decode cX10_stop 60 = .ok (.bastore, 1) := by decide +kernel
theorem dX10_stop_61 : decode cX10_stop 61 = .ok (.aload_n 0, 1) := by decide +kernel
theorem dX10_stop_62 : decode cX10_stop 62 = .ok (.invokevirtual 183, 3) := by decide +kernel
theorem dX10_stop_65 : decode cX10_stop 65 = .ok (.pop, 1) := by decide +kernel
theorem dX10_stop_66 : decode cX10_stop 66 = .ok (.return_, 1) := by decide +kernel
theorem dX10_isReportedAt_0 : decode cX10_isReportedAt 0 = .ok (.iconst 0, 1) := by decide +kernel
theorem dX10_isReportedAt_1 : decode cX10_isReportedAt 1 = .ok (.istore_n 2, 1) := by decide +kernel
theorem dX10_isReportedAt_2 : decode cX10_isReportedAt 2 = .ok (.iconst 0, 1) := by decide +kernel
theorem dX10_isReportedAt_3 : decode cX10_isReportedAt 3 = .ok (.istore_n 3, 1) := by decide +kernel
theorem dX10_isReportedAt_4 : decode cX10_isReportedAt 4 = .ok (.iload_n 3, 1) := by decide +kernel
theorem dX10_isReportedAt_5 : decode cX10_isReportedAt 5 = .ok (.aload_n 0, 1) := by decide +kernel
theorem dX10_isReportedAt_6 : decode cX10_isReportedAt 6 = .ok (.getfield 104, 3) := by decide +kernel
theorem dX10_isReportedAt_9 : decode cX10_isReportedAt 9 = .ok (.if_icmp .ge 39, 3) := by decide +kernel
theorem dX10_isReportedAt_12 : decode cX10_isReportedAt 12 = .ok (.iload_n 2, 1) := by decide +kernel
theorem dX10_isReportedAt_13 : decode cX10_isReportedAt 13 = .ok (.ifCond .ne 23, 3) := by decide +kernel
theorem dX10_isReportedAt_16 : decode cX10_isReportedAt 16 = .ok (.aload_n 0, 1) := by decide +kernel
theorem dX10_isReportedAt_17 : decode cX10_isReportedAt 17 = .ok (.getfield 47, 3) := by decide +kernel
theorem dX10_isReportedAt_20 : decode cX10_isReportedAt 20 = .ok (.iload_n 3, 1) := by decide +kernel
theorem dX10_isReportedAt_21 : decode cX10_isReportedAt 21 = .ok (.iaload, 1) := by decide +kernel
theorem dX10_isReportedAt_22 : decode cX10_isReportedAt 22 = .ok (.iload_n 1, 1) := by decide +kernel
theorem dX10_isReportedAt_23 : decode cX10_isReportedAt 23 = .ok (.if_icmp .ne 17, 3) := by decide +kernel
theorem dX10_isReportedAt_26 : decode cX10_isReportedAt 26 = .ok (.aload_n 0, 1) := by decide +kernel
theorem dX10_isReportedAt_27 : decode cX10_isReportedAt 27 = .ok (.getfield 50, 3) := by decide +kernel
theorem dX10_isReportedAt_30 : decode cX10_isReportedAt 30 = .ok (.iload_n 3, 1) := by decide +kernel
theorem dX10_isReportedAt_31 : decode cX10_isReportedAt 31 = .ok (.iaload, 1) := by decide +kernel
theorem dX10_isReportedAt_32 : decode cX10_isReportedAt 32 = .ok (.iconst 2, 1) := by decide +kernel
theorem dX10_isReportedAt_33 : decode cX10_isReportedAt 33 = .ok (.if_icmp .eq 7, 3) := by decide +kernel
theorem dX10_isReportedAt_36 : decode cX10_isReportedAt 36 = .ok (.iconst 1, 1) := by decide +kernel
theorem dX10_isReportedAt_37 : decode cX10_isReportedAt 37 = .ok (.goto 4, 3) := by decide +kernel
theorem dX10_isReportedAt_40 : decode cX10_isReportedAt 40 = .ok (.iconst 0, 1) := by decide +kernel
theorem dX10_isReportedAt_41 : decode cX10_isReportedAt 41 = .ok (.istore_n 2, 1) := by decide +kernel
theorem dX10_isReportedAt_42 : decode cX10_isReportedAt 42 = .ok (.iinc 3 1, 3) := by decide +kernel
theorem dX10_isReportedAt_45 : decode cX10_isReportedAt 45 = .ok (.goto (-41), 3) := by decide +kernel
theorem dX10_isReportedAt_48 : decode cX10_isReportedAt 48 = .ok (.iload_n 2, 1) := by decide +kernel
theorem dX10_isReportedAt_49 : decode cX10_isReportedAt 49 = .ok (.ireturn, 1) := by decide +kernel
theorem dX10_report_0 : decode cX10_report 0 = .ok (.iload_n 1, 1) := by decide +kernel
theorem dX10_report_1 : decode cX10_report 1 = .ok (.iload_n 2, 1) := by decide +kernel
theorem dX10_report_2 : decode cX10_report 2 = .ok (.invokestatic 177, 3) := by decide +kernel
theorem dX10_report_5 : decode cX10_report 5 = .ok (.istore_n 3, 1) := by decide +kernel
theorem dX10_report_6 : decode cX10_report 6 = .ok (.iconst 4, 1) := by decide +kernel
theorem dX10_report_7 : decode cX10_report 7 = .ok (.iload_n 1, 1) := by decide +kernel
theorem dX10_report_8 : decode cX10_report 8 = .ok (.imul, 1) := by decide +kernel
theorem dX10_report_9 : decode cX10_report 9 = .ok (.iload_n 2, 1) := by decide +kernel
theorem dX10_report_10 : decode cX10_report 10 = .ok (.iadd, 1) := by decide +kernel
theorem dX10_report_11 : decode cX10_report 11 = .ok (.istore 4, 2) := by decide +kernel
theorem dX10_report_13 : decode cX10_report 13 = .ok (.aload_n 0, 1) := by decide +kernel
theorem dX10_report_14 : decode cX10_report 14 = .ok (.iload_n 3, 1) := by decide +kernel
theorem dX10_report_15 : decode cX10_report 15 = .ok (.ifCond .ne 7, 3) := by decide +kernel
theorem dX10_report_18 : decode cX10_report 18 = .ok (.iconst 1, 1) := by decide +kernel
theorem dX10_report_19 : decode cX10_report 19 = .ok (.goto 34, 3) := by decide +kernel
theorem dX10_report_22 : decode cX10_report 22 = .ok (.aload_n 0, 1) := by decide +kernel
theorem dX10_report_23 : decode cX10_report 23 = .ok (.getfield 104, 3) := by decide +kernel
theorem dX10_report_26 : decode cX10_report 26 = .ok (.bipush 12, 2) := by decide +kernel
theorem dX10_report_28 : decode cX10_report 28 = .ok (.if_icmp .eq 20, 3) := by decide +kernel
theorem dX10_report_31 : decode cX10_report 31 = .ok (.iload_n 1, 1) := by decide +kernel
theorem dX10_report_32 : decode cX10_report 32 = .ok (.ifCond .ne 7, 3) := by decide +kernel
theorem dX10_report_35 : decode cX10_report 35 = .ok (.iload_n 2, 1) := by decide +kernel
theorem dX10_report_36 : decode cX10_report 36 = .ok (.ifCond .gt 12, 3) := by decide +kernel
theorem dX10_report_39 : decode cX10_report 39 = .ok (.aload_n 0, 1) := by decide +kernel
theorem dX10_report_40 : decode cX10_report 40 = .ok (.iload 4, 2) := by decide +kernel
theorem dX10_report_42 : decode cX10_report 42 = .ok (.invokevirtual 187, 3) := by decide +kernel
theorem dX10_report_45 : decode cX10_report 45 = .ok (.ifCond .eq 7, 3) := by decide +kernel
theorem dX10_report_48 : decode cX10_report 48 = .ok (.iconst 2, 1) := by decide +kernel
theorem dX10_report_49 : decode cX10_report 49 = .ok (.goto 4, 3) := by decide +kernel
theorem dX10_report_52 : decode cX10_report 52 = .ok (.iconst 0, 1) := by decide +kernel
theorem dX10_report_53 : decode cX10_report 53 = .ok (.invokevirtual 171, 3) := by decide +kernel
theorem dX10_report_56 : decode cX10_report 56 = .ok (.ifCond .ne 5, 3) := by decide +kernel
theorem dX10_report_59 : decode cX10_report 59 = .ok (.iconst 0, 1) := by decide +kernel
theorem dX10_report_60 : decode cX10_report 60 = .ok (.ireturn, 1) := by decide +kernel
theorem dX10_report_61 : decode cX10_report 61 = .ok (.aload_n 0, 1) := by decide +kernel
theorem dX10_report_62 : decode cX10_report 62 = .ok (.getfield 47, 3) := by decide +kernel
theorem dX10_report_65 : decode cX10_report 65 = .ok (.aload_n 0, 1) := by decide +kernel
theorem dX10_report_66 : decode cX10_report 66 = .ok (.getfield 104, 3) := by decide +kernel
theorem dX10_report_69 : decode cX10_report 69 = .ok (.iload 4, 2) := by decide +kernel
theorem dX10_report_71 : decode cX10_report 71 = .ok (.iastore, 1) := by decide +kernel
theorem dX10_report_72 : decode cX10_report 72 = .ok (.aload_n 0, 1) := by decide +kernel
theorem dX10_report_73 : decode cX10_report 73 = .ok (.getfield 50, 3) := by decide +kernel
theorem dX10_report_76 : decode cX10_report 76 = .ok (.aload_n 0, 1) := by decide +kernel
theorem dX10_report_77 : decode cX10_report 77 = .ok (.getfield 104, 3) := by decide +kernel
theorem dX10_report_80 : decode cX10_report 80 = .ok (.iconst 0, 1) := by decide +kernel
theorem dX10_report_81 : decode cX10_report 81 = .ok (.iastore, 1) := by decide +kernel
theorem dX10_report_82 : decode cX10_report 82 = .ok (.aload_n 0, 1) := by decide +kernel
theorem dX10_report_83 : decode cX10_report 83 = .ok (.dup, 1) := by decide +kernel
theorem dX10_report_84 : decode cX10_report 84 = .ok (.getfield 104, 3) := by decide +kernel
theorem dX10_report_87 : decode cX10_report 87 = .ok (.iconst 1, 1) := by decide +kernel
theorem dX10_report_88 : decode cX10_report 88 = .ok (.iadd, 1) := by decide +kernel
theorem dX10_report_89 : decode cX10_report 89 = .ok (.putfield 104, 3) := by decide +kernel
theorem dX10_report_92 : decode cX10_report 92 = .ok (.aload_n 0, 1) := by decide +kernel
theorem dX10_report_93 : decode cX10_report 93 = .ok (.getfield 104, 3) := by decide +kernel
theorem dX10_report_96 : decode cX10_report 96 = .ok (.iconst 1, 1) := by decide +kernel
theorem dX10_report_97 : decode cX10_report 97 = .ok (.isub, 1) := by decide +kernel
theorem dX10_report_98 : decode cX10_report 98 = .ok (.ireturn, 1) := by decide +kernel
theorem dX10_isIncident_0 : decode cX10_isIncident 0 = .ok (.iload_n 1, 1) := by decide +kernel
theorem dX10_isIncident_1 : decode cX10_isIncident 1 = .ok (.iconst 0, 1) := by decide +kernel
theorem dX10_isIncident_2 : decode cX10_isIncident 2 = .ok (.aload_n 0, 1) := by decide +kernel
theorem dX10_isIncident_3 : decode cX10_isIncident 3 = .ok (.getfield 104, 3) := by decide +kernel
theorem dX10_isIncident_6 : decode cX10_isIncident 6 = .ok (.iconst 1, 1) := by decide +kernel
theorem dX10_isIncident_7 : decode cX10_isIncident 7 = .ok (.isub, 1) := by decide +kernel
theorem dX10_isIncident_8 : decode cX10_isIncident 8 = .ok (.invokestatic 87, 3) := by decide +kernel
theorem dX10_isIncident_11 : decode cX10_isIncident 11 = .ok (.ireturn, 1) := by decide +kernel
theorem dX10_confirm_0 : decode cX10_confirm 0 = .ok (.aload_n 0, 1) := by decide +kernel
theorem dX10_confirm_1 : decode cX10_confirm 1 = .ok (.iload_n 1, 1) := by decide +kernel
theorem dX10_confirm_2 : decode cX10_confirm 2 = .ok (.invokevirtual 190, 3) := by decide +kernel
theorem dX10_confirm_5 : decode cX10_confirm 5 = .ok (.istore_n 2, 1) := by decide +kernel
theorem dX10_confirm_6 : decode cX10_confirm 6 = .ok (.aload_n 0, 1) := by decide +kernel
theorem dX10_confirm_7 : decode cX10_confirm 7 = .ok (.iload_n 2, 1) := by decide +kernel
theorem dX10_confirm_8 : decode cX10_confirm 8 = .ok (.ifCond .ne 7, 3) := by decide +kernel
theorem dX10_confirm_11 : decode cX10_confirm 11 = .ok (.iconst 1, 1) := by decide +kernel
theorem dX10_confirm_12 : decode cX10_confirm 12 = .ok (.goto 17, 3) := by decide +kernel
theorem dX10_confirm_15 : decode cX10_confirm 15 = .ok (.aload_n 0, 1) := by decide +kernel
theorem dX10_confirm_16 : decode cX10_confirm 16 = .ok (.getfield 50, 3) := by decide +kernel
theorem dX10_confirm_19 : decode cX10_confirm 19 = .ok (.iload_n 1, 1) := by decide +kernel
theorem dX10_confirm_20 : decode cX10_confirm 20 = .ok (.iaload, 1) := by decide +kernel
theorem dX10_confirm_21 : decode cX10_confirm 21 = .ok (.ifCond .ne 7, 3) := by decide +kernel
theorem dX10_confirm_24 : decode cX10_confirm 24 = .ok (.iconst 0, 1) := by decide +kernel
theorem dX10_confirm_25 : decode cX10_confirm 25 = .ok (.goto 4, 3) := by decide +kernel
theorem dX10_confirm_28 : decode cX10_confirm 28 = .ok (.iconst 2, 1) := by decide +kernel
theorem dX10_confirm_29 : decode cX10_confirm 29 = .ok (.invokevirtual 171, 3) := by decide +kernel
theorem dX10_confirm_32 : decode cX10_confirm 32 = .ok (.ifCond .ne 5, 3) := by decide +kernel
theorem dX10_confirm_35 : decode cX10_confirm 35 = .ok (.iconst 0, 1) := by decide +kernel
theorem dX10_confirm_36 : decode cX10_confirm 36 = .ok (.ireturn, 1) := by decide +kernel
theorem dX10_confirm_37 : decode cX10_confirm 37 = .ok (.aload_n 0, 1) := by decide +kernel
theorem dX10_confirm_38 : decode cX10_confirm 38 = .ok (.getfield 50, 3) := by decide +kernel
theorem dX10_confirm_41 : decode cX10_confirm 41 = .ok (.iload_n 1, 1) := by decide +kernel
theorem dX10_confirm_42 : decode cX10_confirm 42 = .ok (.aload_n 0, 1) := by decide +kernel
theorem dX10_confirm_43 : decode cX10_confirm 43 = .ok (.getfield 13, 3) := by decide +kernel
theorem dX10_confirm_46 : decode cX10_confirm 46 = .ok (.aload_n 0, 1) := by decide +kernel
theorem dX10_confirm_47 : decode cX10_confirm 47 = .ok (.getfield 47, 3) := by decide +kernel
theorem dX10_confirm_50 : decode cX10_confirm 50 = .ok (.iload_n 1, 1) := by decide +kernel
theorem dX10_confirm_51 : decode cX10_confirm 51 = .ok (.iaload, 1) := by decide +kernel
theorem dX10_confirm_52 : decode cX10_confirm 52 = .ok (.baload, 1) := by decide +kernel
theorem dX10_confirm_53 : decode cX10_confirm 53 = .ok (.ifCond .eq 7, 3) := by decide +kernel
theorem dX10_confirm_56 : decode cX10_confirm 56 = .ok (.iconst 1, 1) := by decide +kernel
theorem dX10_confirm_57 : decode cX10_confirm 57 = .ok (.goto 4, 3) := by decide +kernel
theorem dX10_confirm_60 : decode cX10_confirm 60 = .ok (.iconst 2, 1) := by decide +kernel
theorem dX10_confirm_61 : decode cX10_confirm 61 = .ok (.iastore, 1) := by decide +kernel
theorem dX10_confirm_62 : decode cX10_confirm 62 = .ok (.aload_n 0, 1) := by decide +kernel
theorem dX10_confirm_63 : decode cX10_confirm 63 = .ok (.getfield 50, 3) := by decide +kernel
theorem dX10_confirm_66 : decode cX10_confirm 66 = .ok (.iload_n 1, 1) := by decide +kernel
theorem dX10_confirm_67 : decode cX10_confirm 67 = .ok (.iaload, 1) := by decide +kernel
theorem dX10_confirm_68 : decode cX10_confirm 68 = .ok (.ireturn, 1) := by decide +kernel
theorem dX10_patrolOf_0 : decode cX10_patrolOf 0 = .ok (.iconst (-1), 1) := by decide +kernel
theorem dX10_patrolOf_1 : decode cX10_patrolOf 1 = .ok (.istore_n 2, 1) := by decide +kernel
theorem dX10_patrolOf_2 : decode cX10_patrolOf 2 = .ok (.iconst 0, 1) := by decide +kernel
theorem dX10_patrolOf_3 : decode cX10_patrolOf 3 = .ok (.istore_n 3, 1) := by decide +kernel
theorem dX10_patrolOf_4 : decode cX10_patrolOf 4 = .ok (.iload_n 3, 1) := by decide +kernel
theorem dX10_patrolOf_5 : decode cX10_patrolOf 5 = .ok (.iconst 3, 1) := by decide +kernel
theorem dX10_patrolOf_6 : decode cX10_patrolOf 6 = .ok (.if_icmp .ge 25, 3) := by decide +kernel
theorem dX10_patrolOf_9 : decode cX10_patrolOf 9 = .ok (.aload_n 0, 1) := by decide +kernel
theorem dX10_patrolOf_10 : decode cX10_patrolOf 10 = .ok (.getfield 56, 3) := by decide +kernel
theorem dX10_patrolOf_13 : decode cX10_patrolOf 13 = .ok (.iload_n 3, 1) := by decide +kernel
theorem dX10_patrolOf_14 : decode cX10_patrolOf 14 = .ok (.iaload, 1) := by decide +kernel
theorem dX10_patrolOf_15 : decode cX10_patrolOf 15 = .ok (.iload_n 1, 1) := by decide +kernel
theorem dX10_patrolOf_16 : decode cX10_patrolOf 16 = .ok (.if_icmp .ne 7, 3) := by decide +kernel
theorem dX10_patrolOf_19 : decode cX10_patrolOf 19 = .ok (.iload_n 3, 1) := by decide +kernel
theorem dX10_patrolOf_20 : decode cX10_patrolOf 20 = .ok (.goto 4, 3) := by decide +kernel
theorem dX10_patrolOf_23 : decode cX10_patrolOf 23 = .ok (.iload_n 2, 1) := by decide +kernel
theorem dX10_patrolOf_24 : decode cX10_patrolOf 24 = .ok (.istore_n 2, 1) := by decide +kernel
theorem dX10_patrolOf_25 : decode cX10_patrolOf 25 = .ok (.iinc 3 1, 3) := by decide +kernel
theorem dX10_patrolOf_28 : decode cX10_patrolOf 28 = .ok (.goto (-24), 3) := by decide +kernel
theorem dX10_patrolOf_31 : decode cX10_patrolOf 31 = .ok (.iload_n 2, 1) := by decide +kernel
theorem dX10_patrolOf_32 : decode cX10_patrolOf 32 = .ok (.ireturn, 1) := by decide +kernel
theorem dX10_incident_0 : decode cX10_incident 0 = .ok (.aload_n 0, 1) := by decide +kernel
theorem dX10_incident_1 : decode cX10_incident 1 = .ok (.aload_n 0, 1) := by decide +kernel
theorem dX10_incident_2 : decode cX10_incident 2 = .ok (.iload_n 1, 1) := by decide +kernel
theorem dX10_incident_3 : decode cX10_incident 3 = .ok (.invokevirtual 190, 3) := by decide +kernel
theorem dX10_incident_6 : decode cX10_incident 6 = .ok (.ifCond .ne 7, 3) := by decide +kernel
theorem dX10_incident_9 : decode cX10_incident 9 = .ok (.iconst 1, 1) := by decide +kernel
theorem dX10_incident_10 : decode cX10_incident 10 = .ok (.goto 17, 3) := by decide +kernel
theorem dX10_incident_13 : decode cX10_incident 13 = .ok (.iload_n 2, 1) := by decide +kernel
theorem dX10_incident_14 : decode cX10_incident 14 = .ok (.iconst 0, 1) := by decide +kernel
theorem dX10_incident_15 : decode cX10_incident 15 = .ok (.iconst 3, 1) := by decide +kernel
theorem dX10_incident_16 : decode cX10_incident 16 = .ok (.invokestatic 87, 3) := by decide +kernel
theorem dX10_incident_19 : decode cX10_incident 19 = .ok (.ifCond .eq 7, 3) := by decide +kernel
theorem dX10_incident_22 : decode cX10_incident 22 = .ok (.iconst 0, 1) := by decide +kernel
theorem dX10_incident_23 : decode cX10_incident 23 = .ok (.goto 4, 3) := by decide +kernel
theorem dX10_incident_26 : decode cX10_incident 26 = .ok (.iconst 2, 1) := by decide +kernel
theorem dX10_incident_27 : decode cX10_incident 27 = .ok (.invokevirtual 171, 3) := by decide +kernel
theorem dX10_incident_30 : decode cX10_incident 30 = .ok (.ifCond .ne 5, 3) := by decide +kernel
theorem dX10_incident_33 : decode cX10_incident 33 = .ok (.iconst 0, 1) := by decide +kernel
theorem dX10_incident_34 : decode cX10_incident 34 = .ok (.ireturn, 1) := by decide +kernel
theorem dX10_incident_35 : decode cX10_incident 35 = .ok (.aload_n 0, 1) := by decide +kernel
theorem dX10_incident_36 : decode cX10_incident 36 = .ok (.getfield 47, 3) := by decide +kernel
theorem dX10_incident_39 : decode cX10_incident 39 = .ok (.iload_n 1, 1) := by decide +kernel
theorem dX10_incident_40 : decode cX10_incident 40 = .ok (.iaload, 1) := by decide +kernel
theorem dX10_incident_41 : decode cX10_incident 41 = .ok (.istore_n 3, 1) := by decide +kernel
theorem dX10_incident_42 : decode cX10_incident 42 = .ok (.iload_n 2, 1) := by decide +kernel
theorem dX10_incident_43 : decode cX10_incident 43 = .ok (.ifCond .ne 9, 3) := by decide +kernel
theorem dX10_incident_46 : decode cX10_incident 46 = .ok (.iload_n 3, 1) := by decide +kernel
theorem dX10_incident_47 : decode cX10_incident 47 = .ok (.iconst 4, 1) := by decide +kernel
theorem dX10_incident_48 : decode cX10_incident 48 = .ok (.idiv, 1) := by decide +kernel
theorem dX10_incident_49 : decode cX10_incident 49 = .ok (.goto 33, 3) := by decide +kernel
theorem dX10_incident_52 : decode cX10_incident 52 = .ok (.iload_n 2, 1) := by decide +kernel
theorem dX10_incident_53 : decode cX10_incident 53 = .ok (.iconst 1, 1) := by decide +kernel
theorem dX10_incident_54 : decode cX10_incident 54 = .ok (.if_icmp .ne 9, 3) := by decide +kernel
theorem dX10_incident_57 : decode cX10_incident 57 = .ok (.iload_n 3, 1) := by decide +kernel
theorem dX10_incident_58 : decode cX10_incident 58 = .ok (.iconst 4, 1) := by decide +kernel
theorem dX10_incident_59 : decode cX10_incident 59 = .ok (.irem, 1) := by decide +kernel
theorem dX10_incident_60 : decode cX10_incident 60 = .ok (.goto 22, 3) := by decide +kernel
theorem dX10_incident_63 : decode cX10_incident 63 = .ok (.iload_n 2, 1) := by decide +kernel
theorem dX10_incident_64 : decode cX10_incident 64 = .ok (.iconst 2, 1) := by decide +kernel
theorem dX10_incident_65 : decode cX10_incident 65 = .ok (.if_icmp .ne 12, 3) := by decide +kernel
theorem dX10_incident_68 : decode cX10_incident 68 = .ok (.aload_n 0, 1) := by decide +kernel
theorem dX10_incident_69 : decode cX10_incident 69 = .ok (.getfield 50, 3) := by decide +kernel
theorem dX10_incident_72 : decode cX10_incident 72 = .ok (.iload_n 1, 1) := by decide +kernel
theorem dX10_incident_73 : decode cX10_incident 73 = .ok (.iaload, 1) := by decide +kernel
theorem dX10_incident_74 : decode cX10_incident 74 = .ok (.goto 8, 3) := by decide +kernel
theorem dX10_incident_77 : decode cX10_incident 77 = .ok (.aload_n 0, 1) := by decide +kernel
theorem dX10_incident_78 : decode cX10_incident 78 = .ok (.iload_n 1, 1) := by decide +kernel
theorem dX10_incident_79 : decode cX10_incident 79 = .ok (.invokevirtual 193, 3) := by decide +kernel
theorem dX10_incident_82 : decode cX10_incident 82 = .ok (.ireturn, 1) := by decide +kernel
theorem dX10_pattern_0 : decode cX10_pattern 0 = .ok (.aload_n 0, 1) := by decide +kernel
theorem dX10_pattern_1 : decode cX10_pattern 1 = .ok (.iconst 0, 1) := by decide +kernel
theorem dX10_pattern_2 : decode cX10_pattern 2 = .ok (.putfield 83, 3) := by decide +kernel
theorem dX10_pattern_5 : decode cX10_pattern 5 = .ok (.iconst 0, 1) := by decide +kernel
theorem dX10_pattern_6 : decode cX10_pattern 6 = .ok (.istore_n 1, 1) := by decide +kernel
theorem dX10_pattern_7 : decode cX10_pattern 7 = .ok (.iload_n 1, 1) := by decide +kernel
theorem dX10_pattern_8 : decode cX10_pattern 8 = .ok (.bipush 11, 2) := by decide +kernel
theorem dX10_pattern_10 : decode cX10_pattern 10 = .ok (.if_icmp .ge 37, 3) := by decide +kernel
theorem dX10_pattern_13 : decode cX10_pattern 13 = .ok (.aload_n 0, 1) := by decide +kernel
theorem dX10_pattern_14 : decode cX10_pattern 14 = .ok (.iload_n 1, 1) := by decide +kernel
theorem dX10_pattern_15 : decode cX10_pattern 15 = .ok (.invokevirtual 149, 3) := by decide +kernel
theorem dX10_pattern_18 : decode cX10_pattern 18 = .ok (.iconst 0, 1) := by decide +kernel
theorem dX10_pattern_19 : decode cX10_pattern 19 = .ok (.bipush 39, 2) := by decide +kernel
theorem dX10_pattern_21 : decode cX10_pattern 21 = .ok (.invokestatic 87, 3) := by decide +kernel
theorem dX10_pattern_24 : decode cX10_pattern 24 = .ok (.ifCond .eq 17, 3) := by decide +kernel
theorem dX10_pattern_27 : decode cX10_pattern 27 = .ok (.aload_n 0, 1) := by decide +kernel
theorem dX10_pattern_28 : decode cX10_pattern 28 = .ok (.iload_n 1, 1) := by decide +kernel
theorem dX10_pattern_29 : decode cX10_pattern 29 = .ok (.iconst 1, 1) := by decide +kernel
theorem dX10_pattern_30 : decode cX10_pattern 30 = .ok (.iadd, 1) := by decide +kernel
theorem dX10_pattern_31 : decode cX10_pattern 31 = .ok (.invokevirtual 149, 3) := by decide +kernel
theorem dX10_pattern_34 : decode cX10_pattern 34 = .ok (.bipush 80, 2) := by decide +kernel
theorem dX10_pattern_36 : decode cX10_pattern 36 = .ok (.if_icmp .lt 5, 3) := by decide +kernel
theorem dX10_pattern_39 : decode cX10_pattern 39 = .ok (.iload_n 1, 1) := by decide +kernel
theorem dX10_pattern_40 : decode cX10_pattern 40 = .ok (.ireturn, 1) := by decide +kernel
theorem dX10_pattern_41 : decode cX10_pattern 41 = .ok (.iinc 1 1, 3) := by decide +kernel
theorem dX10_pattern_44 : decode cX10_pattern 44 = .ok (.goto (-37), 3) := by decide +kernel
theorem dX10_pattern_47 : decode cX10_pattern 47 = .ok (.iconst (-1), 1) := by decide +kernel
theorem dX10_pattern_48 : decode cX10_pattern 48 = .ok (.ireturn, 1) := by decide +kernel
theorem dX10_isPatrol_0 : decode cX10_isPatrol 0 = .ok (.iload_n 0, 1) := by decide +kernel
theorem dX10_isPatrol_1 : decode cX10_isPatrol 1 = .ok (.iconst 0, 1) := by decide +kernel
theorem dX10_isPatrol_2 : decode cX10_isPatrol 2 = .ok (.iconst 2, 1) := by decide +kernel
theorem dX10_isPatrol_3 : decode cX10_isPatrol 3 = .ok (.invokestatic 87, 3) := by decide +kernel
theorem dX10_isPatrol_6 : decode cX10_isPatrol 6 = .ok (.ireturn, 1) := by decide +kernel
theorem dX10_wayOf_0 : decode cX10_wayOf 0 = .ok (.iload_n 2, 1) := by decide +kernel
theorem dX10_wayOf_1 : decode cX10_wayOf 1 = .ok (.aload_n 0, 1) := by decide +kernel
theorem dX10_wayOf_2 : decode cX10_wayOf 2 = .ok (.getfield 53, 3) := by decide +kernel
theorem dX10_wayOf_5 : decode cX10_wayOf 5 = .ok (.iload_n 1, 1) := by decide +kernel
theorem dX10_wayOf_6 : decode cX10_wayOf 6 = .ok (.iaload, 1) := by decide +kernel
theorem dX10_wayOf_7 : decode cX10_wayOf 7 = .ok (.if_icmp .ge 16, 3) := by decide +kernel
theorem dX10_wayOf_10 : decode cX10_wayOf 10 = .ok (.iconst 3, 1) := by decide +kernel
theorem dX10_wayOf_11 : decode cX10_wayOf 11 = .ok (.aload_n 0, 1) := by decide +kernel
theorem dX10_wayOf_12 : decode cX10_wayOf 12 = .ok (.getfield 53, 3) := by decide +kernel
theorem dX10_wayOf_15 : decode cX10_wayOf 15 = .ok (.iload_n 1, 1) := by decide +kernel
theorem dX10_wayOf_16 : decode cX10_wayOf 16 = .ok (.iaload, 1) := by decide +kernel
theorem dX10_wayOf_17 : decode cX10_wayOf 17 = .ok (.iload_n 2, 1) := by decide +kernel
theorem dX10_wayOf_18 : decode cX10_wayOf 18 = .ok (.isub, 1) := by decide +kernel
theorem dX10_wayOf_19 : decode cX10_wayOf 19 = .ok (.imul, 1) := by decide +kernel
theorem dX10_wayOf_20 : decode cX10_wayOf 20 = .ok (.goto 4, 3) := by decide +kernel
theorem dX10_wayOf_23 : decode cX10_wayOf 23 = .ok (.iconst 0, 1) := by decide +kernel
theorem dX10_wayOf_24 : decode cX10_wayOf 24 = .ok (.istore_n 3, 1) := by decide +kernel
theorem dX10_wayOf_25 : decode cX10_wayOf 25 = .ok (.aload_n 0, 1) := by decide +kernel
theorem dX10_wayOf_26 : decode cX10_wayOf 26 = .ok (.getfield 53, 3) := by decide +kernel
theorem dX10_wayOf_29 : decode cX10_wayOf 29 = .ok (.iload_n 1, 1) := by decide +kernel
theorem dX10_wayOf_30 : decode cX10_wayOf 30 = .ok (.iaload, 1) := by decide +kernel
theorem dX10_wayOf_31 : decode cX10_wayOf 31 = .ok (.iconst 1, 1) := by decide +kernel
theorem dX10_wayOf_32 : decode cX10_wayOf 32 = .ok (.iadd, 1) := by decide +kernel
theorem dX10_wayOf_33 : decode cX10_wayOf 33 = .ok (.istore 4, 2) := by decide +kernel
theorem dX10_wayOf_35 : decode cX10_wayOf 35 = .ok (.iload 4, 2) := by decide +kernel
theorem dX10_wayOf_37 : decode cX10_wayOf 37 = .ok (.iload_n 2, 1) := by decide +kernel
theorem dX10_wayOf_38 : decode cX10_wayOf 38 = .ok (.if_icmp .gt 36, 3) := by decide +kernel
theorem dX10_wayOf_41 : decode cX10_wayOf 41 = .ok (.iload_n 3, 1) := by decide +kernel
theorem dX10_wayOf_42 : decode cX10_wayOf 42 = .ok (.aload_n 0, 1) := by decide +kernel
theorem dX10_wayOf_43 : decode cX10_wayOf 43 = .ok (.getfield 23, 3) := by decide +kernel
theorem dX10_wayOf_46 : decode cX10_wayOf 46 = .ok (.iload 4, 2) := by decide +kernel
theorem dX10_wayOf_48 : decode cX10_wayOf 48 = .ok (.baload, 1) := by decide +kernel
theorem dX10_wayOf_49 : decode cX10_wayOf 49 = .ok (.ifCond .eq 16, 3) := by decide +kernel
theorem dX10_wayOf_52 : decode cX10_wayOf 52 = .ok (.iconst 1, 1) := by decide +kernel
theorem dX10_wayOf_53 : decode cX10_wayOf 53 = .ok (.aload_n 0, 1) := by decide +kernel
theorem dX10_wayOf_54 : decode cX10_wayOf 54 = .ok (.iload 4, 2) := by decide +kernel
theorem dX10_wayOf_56 : decode cX10_wayOf 56 = .ok (.invokevirtual 139, 3) := by decide +kernel
theorem dX10_wayOf_59 : decode cX10_wayOf 59 = .ok (.iconst 5, 1) := by decide +kernel
theorem dX10_wayOf_60 : decode cX10_wayOf 60 = .ok (.idiv, 1) := by decide +kernel
theorem dX10_wayOf_61 : decode cX10_wayOf 61 = .ok (.iadd, 1) := by decide +kernel
theorem dX10_wayOf_62 : decode cX10_wayOf 62 = .ok (.goto 4, 3) := by decide +kernel
theorem dX10_wayOf_65 : decode cX10_wayOf 65 = .ok (.iconst 1, 1) := by decide +kernel
theorem dX10_wayOf_66 : decode cX10_wayOf 66 = .ok (.iadd, 1) := by decide +kernel
theorem dX10_wayOf_67 : decode cX10_wayOf 67 = .ok (.istore_n 3, 1) := by decide +kernel
theorem dX10_wayOf_68 : decode cX10_wayOf 68 = .ok (.iinc 4 1, 3) := by decide +kernel
theorem dX10_wayOf_71 : decode cX10_wayOf 71 = .ok (.goto (-36), 3) := by decide +kernel
theorem dX10_wayOf_74 : decode cX10_wayOf 74 = .ok (.iload_n 3, 1) := by decide +kernel
theorem dX10_wayOf_75 : decode cX10_wayOf 75 = .ok (.ireturn, 1) := by decide +kernel
theorem dX10_way_0 : decode cX10_way 0 = .ok (.aload_n 0, 1) := by decide +kernel
theorem dX10_way_1 : decode cX10_way 1 = .ok (.iload_n 1, 1) := by decide +kernel
theorem dX10_way_2 : decode cX10_way 2 = .ok (.invokestatic 196, 3) := by decide +kernel
theorem dX10_way_5 : decode cX10_way 5 = .ok (.ifCond .eq 14, 3) := by decide +kernel
theorem dX10_way_8 : decode cX10_way 8 = .ok (.iload_n 2, 1) := by decide +kernel
theorem dX10_way_9 : decode cX10_way 9 = .ok (.invokestatic 91, 3) := by decide +kernel
theorem dX10_way_12 : decode cX10_way 12 = .ok (.ifCond .eq 7, 3) := by decide +kernel
theorem dX10_way_15 : decode cX10_way 15 = .ok (.iconst 0, 1) := by decide +kernel
theorem dX10_way_16 : decode cX10_way 16 = .ok (.goto 4, 3) := by decide +kernel
theorem dX10_way_19 : decode cX10_way 19 = .ok (.iconst 1, 1) := by decide +kernel
theorem dX10_way_20 : decode cX10_way 20 = .ok (.invokevirtual 171, 3) := by decide +kernel
theorem dX10_way_23 : decode cX10_way 23 = .ok (.ifCond .eq 12, 3) := by decide +kernel
theorem dX10_way_26 : decode cX10_way 26 = .ok (.aload_n 0, 1) := by decide +kernel
theorem dX10_way_27 : decode cX10_way 27 = .ok (.iload_n 1, 1) := by decide +kernel
theorem dX10_way_28 : decode cX10_way 28 = .ok (.iload_n 2, 1) := by decide +kernel
theorem dX10_way_29 : decode cX10_way 29 = .ok (.invokevirtual 199, 3) := by decide +kernel
theorem dX10_way_32 : decode cX10_way 32 = .ok (.goto 4, 3) := by decide +kernel
theorem dX10_way_35 : decode cX10_way 35 = .ok (.iconst 0, 1) := by decide +kernel
theorem dX10_way_36 : decode cX10_way 36 = .ok (.ireturn, 1) := by decide +kernel
theorem dX10_send_0 : decode cX10_send 0 = .ok (.iload_n 1, 1) := by decide +kernel
theorem dX10_send_1 : decode cX10_send 1 = .ok (.invokestatic 196, 3) := by decide +kernel
theorem dX10_send_4 : decode cX10_send 4 = .ok (.ifCond .eq 15, 3) := by decide +kernel
theorem dX10_send_7 : decode cX10_send 7 = .ok (.aload_n 0, 1) := by decide +kernel
theorem dX10_send_8 : decode cX10_send 8 = .ok (.iload_n 2, 1) := by decide +kernel
theorem dX10_send_9 : decode cX10_send 9 = .ok (.invokevirtual 190, 3) := by decide +kernel
theorem dX10_send_12 : decode cX10_send 12 = .ok (.ifCond .eq 7, 3) := by decide +kernel
theorem dX10_send_15 : decode cX10_send 15 = .ok (.iconst 1, 1) := by decide +kernel
theorem dX10_send_16 : decode cX10_send 16 = .ok (.goto 4, 3) := by decide +kernel
theorem dX10_send_19 : decode cX10_send 19 = .ok (.iconst 0, 1) := by decide +kernel
theorem dX10_send_20 : decode cX10_send 20 = .ok (.istore_n 3, 1) := by decide +kernel
theorem dX10_send_21 : decode cX10_send 21 = .ok (.aload_n 0, 1) := by decide +kernel
theorem dX10_send_22 : decode cX10_send 22 = .ok (.iload_n 3, 1) := by decide +kernel
theorem dX10_send_23 : decode cX10_send 23 = .ok (.ifCond .ne 7, 3) := by decide +kernel
theorem dX10_send_26 : decode cX10_send 26 = .ok (.iconst 1, 1) := by decide +kernel
theorem dX10_send_27 : decode cX10_send 27 = .ok (.goto 37, 3) := by decide +kernel
theorem dX10_send_30 : decode cX10_send 30 = .ok (.aload_n 0, 1) := by decide +kernel
theorem dX10_send_31 : decode cX10_send 31 = .ok (.getfield 56, 3) := by decide +kernel
theorem dX10_send_34 : decode cX10_send 34 = .ok (.iload_n 1, 1) := by decide +kernel
theorem dX10_send_35 : decode cX10_send 35 = .ok (.iaload, 1) := by decide +kernel
theorem dX10_send_36 : decode cX10_send 36 = .ok (.iconst (-1), 1) := by decide +kernel
theorem dX10_send_37 : decode cX10_send 37 = .ok (.if_icmp .ne 22, 3) := by decide +kernel
theorem dX10_send_40 : decode cX10_send 40 = .ok (.aload_n 0, 1) := by decide +kernel
theorem dX10_send_41 : decode cX10_send 41 = .ok (.getfield 50, 3) := by decide +kernel
theorem dX10_send_44 : decode cX10_send 44 = .ok (.iload_n 2, 1) := by decide +kernel
theorem dX10_send_45 : decode cX10_send 45 = .ok (.iaload, 1) := by decide +kernel
theorem dX10_send_46 : decode cX10_send 46 = .ok (.iconst 1, 1) := by decide +kernel
theorem dX10_send_47 : decode cX10_send 47 = .ok (.if_icmp .ne 12, 3) := by decide +kernel
theorem dX10_send_50 : decode cX10_send 50 = .ok (.aload_n 0, 1) := by decide +kernel
theorem dX10_send_51 : decode cX10_send 51 = .ok (.iload_n 2, 1) := by decide +kernel
theorem dX10_send_52 : decode cX10_send 52 = .ok (.invokevirtual 193, 3) := by decide +kernel
theorem dX10_send_55 : decode cX10_send 55 = .ok (.iconst (-1), 1) := by decide +kernel
theorem dX10_send_56 : decode cX10_send 56 = .ok (.if_icmp .eq 7, 3) := by decide +kernel
theorem dX10_send_59 : decode cX10_send 59 = .ok (.iconst 2, 1) := by decide +kernel
theorem dX10_send_60 : decode cX10_send 60 = .ok (.goto 4, 3) := by decide +kernel
theorem dX10_send_63 : decode cX10_send 63 = .ok (.iconst 0, 1) := by decide +kernel
theorem dX10_send_64 : decode cX10_send 64 = .ok (.invokevirtual 171, 3) := by decide +kernel
theorem dX10_send_67 : decode cX10_send 67 = .ok (.ifCond .ne 5, 3) := by decide +kernel
theorem dX10_send_70 : decode cX10_send 70 = .ok (.iconst 0, 1) := by decide +kernel
theorem dX10_send_71 : decode cX10_send 71 = .ok (.ireturn, 1) := by decide +kernel
theorem dX10_send_72 : decode cX10_send 72 = .ok (.aload_n 0, 1) := by decide +kernel
theorem dX10_send_73 : decode cX10_send 73 = .ok (.getfield 56, 3) := by decide +kernel
theorem dX10_send_76 : decode cX10_send 76 = .ok (.iload_n 1, 1) := by decide +kernel
theorem dX10_send_77 : decode cX10_send 77 = .ok (.iload_n 2, 1) := by decide +kernel
theorem dX10_send_78 : decode cX10_send 78 = .ok (.iastore, 1) := by decide +kernel
theorem dX10_send_79 : decode cX10_send 79 = .ok (.aload_n 0, 1) := by decide +kernel
theorem dX10_send_80 : decode cX10_send 80 = .ok (.getfield 59, 3) := by decide +kernel
theorem dX10_send_83 : decode cX10_send 83 = .ok (.iload_n 1, 1) := by decide +kernel
theorem dX10_send_84 : decode cX10_send 84 = .ok (.aload_n 0, 1) := by decide +kernel
theorem dX10_send_85 : decode cX10_send 85 = .ok (.iload_n 1, 1) := by decide +kernel
theorem dX10_send_86 : decode cX10_send 86 = .ok (.aload_n 0, 1) := by decide +kernel
theorem dX10_send_87 : decode cX10_send 87 = .ok (.getfield 47, 3) := by decide +kernel
theorem dX10_send_90 : decode cX10_send 90 = .ok (.iload_n 2, 1) := by decide +kernel
theorem dX10_send_91 : decode cX10_send 91 = .ok (.iaload, 1) := by decide +kernel
theorem dX10_send_92 : decode cX10_send 92 = .ok (.iconst 4, 1) := by decide +kernel
theorem dX10_send_93 : decode cX10_send 93 = .ok (.idiv, 1) := by decide +kernel
theorem dX10_send_94 : decode cX10_send 94 = .ok (.invokevirtual 199, 3) := by decide +kernel
theorem dX10_send_97 : decode cX10_send 97 = .ok (.iconst 5, 1) := by decide +kernel
theorem dX10_send_98 : decode cX10_send 98 = .ok (.iadd, 1) := by decide +kernel
theorem dX10_send_99 : decode cX10_send 99 = .ok (.iastore, 1) := by decide +kernel
theorem dX10_send_100 : decode cX10_send 100 = .ok (.aload_n 0, 1) := by decide +kernel
theorem dX10_send_101 : decode cX10_send 101 = .ok (.getfield 59, 3) := by decide +kernel
theorem dX10_send_104 : decode cX10_send 104 = .ok (.iload_n 1, 1) := by decide +kernel
theorem dX10_send_105 : decode cX10_send 105 = .ok (.iaload, 1) := by decide +kernel
theorem dX10_send_106 : decode cX10_send 106 = .ok (.ireturn, 1) := by decide +kernel
theorem dX10_patrol_0 : decode cX10_patrol 0 = .ok (.aload_n 0, 1) := by decide +kernel
theorem dX10_patrol_1 : decode cX10_patrol 1 = .ok (.iload_n 1, 1) := by decide +kernel
theorem dX10_patrol_2 : decode cX10_patrol 2 = .ok (.invokestatic 196, 3) := by decide +kernel
theorem dX10_patrol_5 : decode cX10_patrol 5 = .ok (.ifCond .ne 7, 3) := by decide +kernel
theorem dX10_patrol_8 : decode cX10_patrol 8 = .ok (.iconst 1, 1) := by decide +kernel
theorem dX10_patrol_9 : decode cX10_patrol 9 = .ok (.goto 17, 3) := by decide +kernel
theorem dX10_patrol_12 : decode cX10_patrol 12 = .ok (.iload_n 2, 1) := by decide +kernel
theorem dX10_patrol_13 : decode cX10_patrol 13 = .ok (.iconst 0, 1) := by decide +kernel
theorem dX10_patrol_14 : decode cX10_patrol 14 = .ok (.iconst 2, 1) := by decide +kernel
theorem dX10_patrol_15 : decode cX10_patrol 15 = .ok (.invokestatic 87, 3) := by decide +kernel
theorem dX10_patrol_18 : decode cX10_patrol 18 = .ok (.ifCond .eq 7, 3) := by decide +kernel
theorem dX10_patrol_21 : decode cX10_patrol 21 = .ok (.iconst 0, 1) := by decide +kernel
theorem dX10_patrol_22 : decode cX10_patrol 22 = .ok (.goto 4, 3) := by decide +kernel
theorem dX10_patrol_25 : decode cX10_patrol 25 = .ok (.iconst 2, 1) := by decide +kernel
theorem dX10_patrol_26 : decode cX10_patrol 26 = .ok (.invokevirtual 171, 3) := by decide +kernel
theorem dX10_patrol_29 : decode cX10_patrol 29 = .ok (.ifCond .ne 5, 3) := by decide +kernel
theorem dX10_patrol_32 : decode cX10_patrol 32 = .ok (.iconst 0, 1) := by decide +kernel
theorem dX10_patrol_33 : decode cX10_patrol 33 = .ok (.ireturn, 1) := by decide +kernel
theorem dX10_patrol_34 : decode cX10_patrol 34 = .ok (.iload_n 2, 1) := by decide +kernel
theorem dX10_patrol_35 : decode cX10_patrol 35 = .ok (.ifCond .ne 12, 3) := by decide +kernel
theorem dX10_patrol_38 : decode cX10_patrol 38 = .ok (.aload_n 0, 1) := by decide +kernel
theorem dX10_patrol_39 : decode cX10_patrol 39 = .ok (.getfield 53, 3) := by decide +kernel
theorem dX10_patrol_42 : decode cX10_patrol 42 = .ok (.iload_n 1, 1) := by decide +kernel
theorem dX10_patrol_43 : decode cX10_patrol 43 = .ok (.iaload, 1) := by decide +kernel
theorem dX10_patrol_44 : decode cX10_patrol 44 = .ok (.goto 37, 3) := by decide +kernel
theorem dX10_patrol_47 : decode cX10_patrol 47 = .ok (.iload_n 2, 1) := by decide +kernel
theorem dX10_patrol_48 : decode cX10_patrol 48 = .ok (.iconst 1, 1) := by decide +kernel
theorem dX10_patrol_49 : decode cX10_patrol 49 = .ok (.if_icmp .ne 12, 3) := by decide +kernel
theorem dX10_patrol_52 : decode cX10_patrol 52 = .ok (.aload_n 0, 1) := by decide +kernel
theorem dX10_patrol_53 : decode cX10_patrol 53 = .ok (.getfield 56, 3) := by decide +kernel
theorem dX10_patrol_56 : decode cX10_patrol 56 = .ok (.iload_n 1, 1) := by decide +kernel
theorem dX10_patrol_57 : decode cX10_patrol 57 = .ok (.iaload, 1) := by decide +kernel
theorem dX10_patrol_58 : decode cX10_patrol 58 = .ok (.goto 23, 3) := by decide +kernel
theorem dX10_patrol_61 : decode cX10_patrol 61 = .ok (.aload_n 0, 1) := by decide +kernel
theorem dX10_patrol_62 : decode cX10_patrol 62 = .ok (.getfield 56, 3) := by decide +kernel
theorem dX10_patrol_65 : decode cX10_patrol 65 = .ok (.iload_n 1, 1) := by decide +kernel
theorem dX10_patrol_66 : decode cX10_patrol 66 = .ok (.iaload, 1) := by decide +kernel
theorem dX10_patrol_67 : decode cX10_patrol 67 = .ok (.iconst (-1), 1) := by decide +kernel
theorem dX10_patrol_68 : decode cX10_patrol 68 = .ok (.if_icmp .ne 7, 3) := by decide +kernel
theorem dX10_patrol_71 : decode cX10_patrol 71 = .ok (.iconst 0, 1) := by decide +kernel
theorem dX10_patrol_72 : decode cX10_patrol 72 = .ok (.goto 9, 3) := by decide +kernel
theorem dX10_patrol_75 : decode cX10_patrol 75 = .ok (.aload_n 0, 1) := by decide +kernel
theorem dX10_patrol_76 : decode cX10_patrol 76 = .ok (.getfield 59, 3) := by decide +kernel
theorem dX10_patrol_79 : decode cX10_patrol 79 = .ok (.iload_n 1, 1) := by decide +kernel
theorem dX10_patrol_80 : decode cX10_patrol 80 = .ok (.iaload, 1) := by decide +kernel
theorem dX10_patrol_81 : decode cX10_patrol 81 = .ok (.ireturn, 1) := by decide +kernel
theorem dX10_areBooked_0 : decode cX10_areBooked 0 = .ok (.iconst 0, 1) := by decide +kernel
theorem dX10_areBooked_1 : decode cX10_areBooked 1 = .ok (.istore 4, 2) := by decide +kernel
theorem dX10_areBooked_3 : decode cX10_areBooked 3 = .ok (.iconst 0, 1) := by decide +kernel
theorem dX10_areBooked_4 : decode cX10_areBooked 4 = .ok (.istore 5, 2) := by decide +kernel
theorem dX10_areBooked_6 : decode cX10_areBooked 6 = .ok (.iload 5, 2) := by decide +kernel
theorem dX10_areBooked_8 : decode cX10_areBooked 8 = .ok (.aload_n 0, 1) := by decide +kernel
theorem dX10_areBooked_9 : decode cX10_areBooked 9 = .ok (.getfield 98, 3) := by decide +kernel
theorem dX10_areBooked_12 : decode cX10_areBooked 12 = .ok (.if_icmp .ge 75, 3) := by decide +kernel
theorem dX10_areBooked_15 : decode cX10_areBooked 15 = .ok (.iload 4, 2) := by decide +kernel
theorem dX10_areBooked_17 : decode cX10_areBooked 17 = .ok (.ifCond .ne 57, 3) := by decide +kernel
theorem dX10_areBooked_20 : decode cX10_areBooked 20 = .ok (.aload_n 0, 1) := by decide +kernel
theorem dX10_areBooked_21 : decode cX10_areBooked 21 = .ok (.getfield 62, 3) := by decide +kernel
theorem dX10_areBooked_24 : decode cX10_areBooked 24 = .ok (.iload 5, 2) := by decide +kernel
theorem dX10_areBooked_26 : decode cX10_areBooked 26 = .ok (.iaload, 1) := by decide +kernel
theorem dX10_areBooked_27 : decode cX10_areBooked 27 = .ok (.iload_n 2, 1) := by decide +kernel
theorem dX10_areBooked_28 : decode cX10_areBooked 28 = .ok (.if_icmp .ne 50, 3) := by decide +kernel
theorem dX10_areBooked_31 : decode cX10_areBooked 31 = .ok (.iload_n 1, 1) := by decide +kernel
theorem dX10_areBooked_32 : decode cX10_areBooked 32 = .ok (.aload_n 0, 1) := by decide +kernel
theorem dX10_areBooked_33 : decode cX10_areBooked 33 = .ok (.getfield 65, 3) := by decide +kernel
theorem dX10_areBooked_36 : decode cX10_areBooked 36 = .ok (.iload 5, 2) := by decide +kernel
theorem dX10_areBooked_38 : decode cX10_areBooked 38 = .ok (.iaload, 1) := by decide +kernel
theorem dX10_areBooked_39 : decode cX10_areBooked 39 = .ok (.aload_n 0, 1) := by decide +kernel
theorem dX10_areBooked_40 : decode cX10_areBooked 40 = .ok (.getfield 68, 3) := by decide +kernel
theorem dX10_areBooked_43 : decode cX10_areBooked 43 = .ok (.iload 5, 2) := by decide +kernel
theorem dX10_areBooked_45 : decode cX10_areBooked 45 = .ok (.iaload, 1) := by decide +kernel
theorem dX10_areBooked_46 : decode cX10_areBooked 46 = .ok (.invokestatic 87, 3) := by decide +kernel
theorem dX10_areBooked_49 : decode cX10_areBooked 49 = .ok (.ifCond .eq 29, 3) := by decide +kernel
theorem dX10_areBooked_52 : decode cX10_areBooked 52 = .ok (.iload_n 3, 1) := by decide +kernel
theorem dX10_areBooked_53 : decode cX10_areBooked 53 = .ok (.aload_n 0, 1) := by decide +kernel
theorem dX10_areBooked_54 : decode cX10_areBooked 54 = .ok (.getfield 71, 3) := by decide +kernel
theorem dX10_areBooked_57 : decode cX10_areBooked 57 = .ok (.iload 5, 2) := by decide +kernel
theorem dX10_areBooked_59 : decode cX10_areBooked 59 = .ok (.iaload, 1) := by decide +kernel
theorem dX10_areBooked_60 : decode cX10_areBooked 60 = .ok (.if_icmp .lt 18, 3) := by decide +kernel
theorem dX10_areBooked_63 : decode cX10_areBooked 63 = .ok (.iload_n 3, 1) := by decide +kernel
theorem dX10_areBooked_64 : decode cX10_areBooked 64 = .ok (.aload_n 0, 1) := by decide +kernel
theorem dX10_areBooked_65 : decode cX10_areBooked 65 = .ok (.getfield 74, 3) := by decide +kernel
theorem dX10_areBooked_68 : decode cX10_areBooked 68 = .ok (.iload 5, 2) := by decide +kernel
theorem dX10_areBooked_70 : decode cX10_areBooked 70 = .ok (.iaload, 1) := by decide +kernel
theorem dX10_areBooked_71 : decode cX10_areBooked 71 = .ok (.if_icmp .ge 7, 3) := by decide +kernel
theorem dX10_areBooked_74 : decode cX10_areBooked 74 = .ok (.iconst 1, 1) := by decide +kernel
theorem dX10_areBooked_75 : decode cX10_areBooked 75 = .ok (.goto 4, 3) := by decide +kernel
theorem dX10_areBooked_78 : decode cX10_areBooked 78 = .ok (.iconst 0, 1) := by decide +kernel
theorem dX10_areBooked_79 : decode cX10_areBooked 79 = .ok (.istore 4, 2) := by decide +kernel
theorem dX10_areBooked_81 : decode cX10_areBooked 81 = .ok (.iinc 5 1, 3) := by decide +kernel
theorem dX10_areBooked_84 : decode cX10_areBooked 84 = .ok (.goto (-78), 3) := by decide +kernel
theorem dX10_areBooked_87 : decode cX10_areBooked 87 = .ok (.iload 4, 2) := by decide +kernel
theorem dX10_areBooked_89 : decode cX10_areBooked 89 = .ok (.ireturn, 1) := by decide +kernel
theorem dX10_areTooMany_0 : decode cX10_areTooMany 0 = .ok (.iload_n 1, 1) := by decide +kernel
theorem dX10_areTooMany_1 : decode cX10_areTooMany 1 = .ok (.iconst 1, 1) := by decide +kernel
theorem dX10_areTooMany_2 : decode cX10_areTooMany 2 = .ok (.if_icmp .ne 7, 3) := by decide +kernel
theorem dX10_areTooMany_5 : decode cX10_areTooMany 5 = .ok (.iconst 2, 1) := by decide +kernel
theorem dX10_areTooMany_6 : decode cX10_areTooMany 6 = .ok (.goto 4, 3) := by decide +kernel
theorem dX10_areTooMany_9 : decode cX10_areTooMany 9 = .ok (.iconst 1, 1) := by decide +kernel
theorem dX10_areTooMany_10 : decode cX10_areTooMany 10 = .ok (.istore 6, 2) := by decide +kernel
theorem dX10_areTooMany_12 : decode cX10_areTooMany 12 = .ok (.iload_n 1, 1) := by decide +kernel
theorem dX10_areTooMany_13 : decode cX10_areTooMany 13 = .ok (.iconst 3, 1) := by decide +kernel
theorem dX10_areTooMany_14 : decode cX10_areTooMany 14 = .ok (.if_icmp .ne 7, 3) := by decide +kernel
theorem dX10_areTooMany_17 : decode cX10_areTooMany 17 = .ok (.iconst 2, 1) := by decide +kernel
theorem dX10_areTooMany_18 : decode cX10_areTooMany 18 = .ok (.goto 4, 3) := by decide +kernel
theorem dX10_areTooMany_21 : decode cX10_areTooMany 21 = .ok (.iconst 3, 1) := by decide +kernel
theorem dX10_areTooMany_22 : decode cX10_areTooMany 22 = .ok (.istore 7, 2) := by decide +kernel
theorem dX10_areTooMany_24 : decode cX10_areTooMany 24 = .ok (.iconst 0, 1) := by decide +kernel
theorem dX10_areTooMany_25 : decode cX10_areTooMany 25 = .ok (.istore 8, 2) := by decide +kernel
theorem dX10_areTooMany_27 : decode cX10_areTooMany 27 = .ok (.iload_n 2, 1) := by decide +kernel
theorem dX10_areTooMany_28 : decode cX10_areTooMany 28 = .ok (.istore 9, 2) := by decide +kernel
theorem dX10_areTooMany_30 : decode cX10_areTooMany 30 = .ok (.iload 9, 2) := by decide +kernel
theorem dX10_areTooMany_32 : decode cX10_areTooMany 32 = .ok (.iload_n 3, 1) := by decide +kernel
theorem dX10_areTooMany_33 : decode cX10_areTooMany 33 = .ok (.if_icmp .gt 69, 3) := by decide +kernel
theorem dX10_areTooMany_36 : decode cX10_areTooMany 36 = .ok (.iload 8, 2) := by decide +kernel
theorem dX10_areTooMany_38 : decode cX10_areTooMany 38 = .ok (.ifCond .ne 64, 3) := by decide +kernel
theorem dX10_areTooMany_41 : decode cX10_areTooMany 41 = .ok (.iload 4, 2) := by decide +kernel
theorem dX10_areTooMany_43 : decode cX10_areTooMany 43 = .ok (.istore 10, 2) := by decide +kernel
theorem dX10_areTooMany_45 : decode cX10_areTooMany 45 = .ok (.iload 10, 2) := by decide +kernel
theorem dX10_areTooMany_47 : decode cX10_areTooMany 47 = .ok (.iload 5, 2) := by decide +kernel
theorem dX10_areTooMany_49 : decode cX10_areTooMany 49 = .ok (.if_icmp .ge 47, 3) := by decide +kernel
theorem dX10_areTooMany_52 : decode cX10_areTooMany 52 = .ok (.iload 8, 2) := by decide +kernel
theorem dX10_areTooMany_54 : decode cX10_areTooMany 54 = .ok (.ifCond .ne 42, 3) := by decide +kernel
theorem dX10_areTooMany_57 : decode cX10_areTooMany 57 = .ok (.aload_n 0, 1) := by decide +kernel
theorem dX10_areTooMany_58 : decode cX10_areTooMany 58 = .ok (.iload 9, 2) := by decide +kernel
theorem dX10_areTooMany_60 : decode cX10_areTooMany 60 = .ok (.iload 6, 2) := by decide +kernel
theorem dX10_areTooMany_62 : decode cX10_areTooMany 62 = .ok (.iload 10, 2) := by decide +kernel
theorem dX10_areTooMany_64 : decode cX10_areTooMany 64 = .ok (.invokevirtual 202, 3) := by decide +kernel
theorem dX10_areTooMany_67 : decode cX10_areTooMany 67 = .ok (.ifCond .eq 20, 3) := by decide +kernel
theorem dX10_areTooMany_70 : decode cX10_areTooMany 70 = .ok (.aload_n 0, 1) := by decide +kernel
theorem dX10_areTooMany_71 : decode cX10_areTooMany 71 = .ok (.iload 9, 2) := by decide +kernel
theorem dX10_areTooMany_73 : decode cX10_areTooMany 73 = .ok (.iload 7, 2) := by decide +kernel
theorem dX10_areTooMany_75 : decode cX10_areTooMany 75 = .ok (.iload 10, 2) := by decide +kernel
theorem dX10_areTooMany_77 : decode cX10_areTooMany 77 = .ok (.invokevirtual 202, 3) := by decide +kernel
theorem dX10_areTooMany_80 : decode cX10_areTooMany 80 = .ok (.ifCond .eq 7, 3) := by decide +kernel
theorem dX10_areTooMany_83 : decode cX10_areTooMany 83 = .ok (.iconst 1, 1) := by decide +kernel
theorem dX10_areTooMany_84 : decode cX10_areTooMany 84 = .ok (.goto 4, 3) := by decide +kernel
theorem dX10_areTooMany_87 : decode cX10_areTooMany 87 = .ok (.iconst 0, 1) := by decide +kernel
theorem dX10_areTooMany_88 : decode cX10_areTooMany 88 = .ok (.istore 8, 2) := by decide +kernel
theorem dX10_areTooMany_90 : decode cX10_areTooMany 90 = .ok (.iinc 10 1, 3) := by decide +kernel
theorem dX10_areTooMany_93 : decode cX10_areTooMany 93 = .ok (.goto (-48), 3) := by decide +kernel
theorem dX10_areTooMany_96 : decode cX10_areTooMany 96 = .ok (.iinc 9 1, 3) := by decide +kernel
theorem dX10_areTooMany_99 : decode cX10_areTooMany 99 = .ok (.goto (-69), 3) := by decide +kernel
theorem dX10_areTooMany_102 : decode cX10_areTooMany 102 = .ok (.iload 8, 2) := by decide +kernel
theorem dX10_areTooMany_104 : decode cX10_areTooMany 104 = .ok (.ireturn, 1) := by decide +kernel
theorem dX10_works_0 : decode cX10_works 0 = .ok (.iload_n 1, 1) := by decide +kernel
theorem dX10_works_1 : decode cX10_works 1 = .ok (.iconst 1, 1) := by decide +kernel
theorem dX10_works_2 : decode cX10_works 2 = .ok (.iconst 3, 1) := by decide +kernel
theorem dX10_works_3 : decode cX10_works 3 = .ok (.invokestatic 87, 3) := by decide +kernel
theorem dX10_works_6 : decode cX10_works 6 = .ok (.ifCond .eq 27, 3) := by decide +kernel
theorem dX10_works_9 : decode cX10_works 9 = .ok (.iload_n 2, 1) := by decide +kernel
theorem dX10_works_10 : decode cX10_works 10 = .ok (.iconst 1, 1) := by decide +kernel
theorem dX10_works_11 : decode cX10_works 11 = .ok (.bipush 11, 2) := by decide +kernel
theorem dX10_works_13 : decode cX10_works 13 = .ok (.invokestatic 87, 3) := by decide +kernel
theorem dX10_works_16 : decode cX10_works 16 = .ok (.ifCond .eq 17, 3) := by decide +kernel
theorem dX10_works_19 : decode cX10_works 19 = .ok (.iload_n 3, 1) := by decide +kernel
theorem dX10_works_20 : decode cX10_works 20 = .ok (.iconst 1, 1) := by decide +kernel
theorem dX10_works_21 : decode cX10_works 21 = .ok (.bipush 11, 2) := by decide +kernel
theorem dX10_works_23 : decode cX10_works 23 = .ok (.invokestatic 87, 3) := by decide +kernel
theorem dX10_works_26 : decode cX10_works 26 = .ok (.ifCond .eq 7, 3) := by decide +kernel
theorem dX10_works_29 : decode cX10_works 29 = .ok (.iconst 1, 1) := by decide +kernel
theorem dX10_works_30 : decode cX10_works 30 = .ok (.goto 4, 3) := by decide +kernel
theorem dX10_works_33 : decode cX10_works 33 = .ok (.iconst 0, 1) := by decide +kernel
theorem dX10_works_34 : decode cX10_works 34 = .ok (.istore 6, 2) := by decide +kernel
theorem dX10_works_36 : decode cX10_works 36 = .ok (.iload_n 2, 1) := by decide +kernel
theorem dX10_works_37 : decode cX10_works 37 = .ok (.iload_n 3, 1) := by decide +kernel
theorem dX10_works_38 : decode cX10_works 38 = .ok (.if_icmp .gt 37, 3) := by decide +kernel
theorem dX10_works_41 : decode cX10_works 41 = .ok (.iload 4, 2) := by decide +kernel
theorem dX10_works_43 : decode cX10_works 43 = .ok (.aload_n 0, 1) := by decide +kernel
theorem dX10_works_44 : decode cX10_works 44 = .ok (.getfield 95, 3) := by decide +kernel
theorem dX10_works_47 : decode cX10_works 47 = .ok (.sipush 599, 3) := by decide +kernel
theorem dX10_works_50 : decode cX10_works 50 = .ok (.invokestatic 87, 3) := by decide +kernel
theorem dX10_works_53 : decode cX10_works 53 = .ok (.ifCond .eq 22, 3) := by decide +kernel
theorem dX10_works_56 : decode cX10_works 56 = .ok (.iload 5, 2) := by decide +kernel
theorem dX10_works_58 : decode cX10_works 58 = .ok (.iload 4, 2) := by decide +kernel
theorem dX10_works_60 : decode cX10_works 60 = .ok (.if_icmp .le 15, 3) := by decide +kernel
theorem dX10_works_63 : decode cX10_works 63 = .ok (.iload 5, 2) := by decide +kernel
theorem dX10_works_65 : decode cX10_works 65 = .ok (.sipush 600, 3) := by decide +kernel
theorem dX10_works_68 : decode cX10_works 68 = .ok (.if_icmp .gt 7, 3) := by decide +kernel
theorem dX10_works_71 : decode cX10_works 71 = .ok (.iconst 1, 1) := by decide +kernel
theorem dX10_works_72 : decode cX10_works 72 = .ok (.goto 4, 3) := by decide +kernel
theorem dX10_works_75 : decode cX10_works 75 = .ok (.iconst 0, 1) := by decide +kernel
theorem dX10_works_76 : decode cX10_works 76 = .ok (.istore 7, 2) := by decide +kernel
theorem dX10_works_78 : decode cX10_works 78 = .ok (.aload_n 0, 1) := by decide +kernel
theorem dX10_works_79 : decode cX10_works 79 = .ok (.iload 6, 2) := by decide +kernel
theorem dX10_works_81 : decode cX10_works 81 = .ok (.ifCond .ne 7, 3) := by decide +kernel
theorem dX10_works_84 : decode cX10_works 84 = .ok (.iconst 1, 1) := by decide +kernel
theorem dX10_works_85 : decode cX10_works 85 = .ok (.goto 40, 3) := by decide +kernel
theorem dX10_works_88 : decode cX10_works 88 = .ok (.iload 7, 2) := by decide +kernel
theorem dX10_works_90 : decode cX10_works 90 = .ok (.ifCond .ne 7, 3) := by decide +kernel
theorem dX10_works_93 : decode cX10_works 93 = .ok (.iconst 2, 1) := by decide +kernel
theorem dX10_works_94 : decode cX10_works 94 = .ok (.goto 31, 3) := by decide +kernel
theorem dX10_works_97 : decode cX10_works 97 = .ok (.aload_n 0, 1) := by decide +kernel
theorem dX10_works_98 : decode cX10_works 98 = .ok (.getfield 98, 3) := by decide +kernel
theorem dX10_works_101 : decode cX10_works 101 = .ok (.bipush 8, 2) := by decide +kernel
theorem dX10_works_103 : decode cX10_works 103 = .ok (.if_icmp .eq 17, 3) := by decide +kernel
theorem dX10_works_106 : decode cX10_works 106 = .ok (.aload_n 0, 1) := by decide +kernel
theorem dX10_works_107 : decode cX10_works 107 = .ok (.iload_n 1, 1) := by decide +kernel
theorem dX10_works_108 : decode cX10_works 108 = .ok (.iload_n 2, 1) := by decide +kernel
theorem dX10_works_109 : decode cX10_works 109 = .ok (.iload_n 3, 1) := by decide +kernel
theorem dX10_works_110 : decode cX10_works 110 = .ok (.iload 4, 2) := by decide +kernel
theorem dX10_works_112 : decode cX10_works 112 = .ok (.iload 5, 2) := by decide +kernel
theorem dX10_works_114 : decode cX10_works 114 = .ok (.invokevirtual 205, 3) := by decide +kernel
theorem dX10_works_117 : decode cX10_works 117 = .ok (.ifCond .eq 7, 3) := by decide +kernel
theorem dX10_works_120 : decode cX10_works 120 = .ok (.iconst 3, 1) := by decide +kernel
theorem dX10_works_121 : decode cX10_works 121 = .ok (.goto 4, 3) := by decide +kernel
theorem dX10_works_124 : decode cX10_works 124 = .ok (.iconst 0, 1) := by decide +kernel
theorem dX10_works_125 : decode cX10_works 125 = .ok (.invokevirtual 171, 3) := by decide +kernel
theorem dX10_works_128 : decode cX10_works 128 = .ok (.ifCond .ne 5, 3) := by decide +kernel
theorem dX10_works_131 : decode cX10_works 131 = .ok (.iconst 0, 1) := by decide +kernel
theorem dX10_works_132 : decode cX10_works 132 = .ok (.ireturn, 1) := by decide +kernel
theorem dX10_works_133 : decode cX10_works 133 = .ok (.aload_n 0, 1) := by decide +kernel
theorem dX10_works_134 : decode cX10_works 134 = .ok (.getfield 62, 3) := by decide +kernel
theorem dX10_works_137 : decode cX10_works 137 = .ok (.aload_n 0, 1) := by decide +kernel
theorem dX10_works_138 : decode cX10_works 138 = .ok (.getfield 98, 3) := by decide +kernel
theorem dX10_works_141 : decode cX10_works 141 = .ok (.iload_n 1, 1) := by decide +kernel
theorem dX10_works_142 : decode cX10_works 142 = .ok (.iastore, 1) := by decide +kernel
theorem dX10_works_143 : decode cX10_works 143 = .ok (.aload_n 0, 1) := by decide +kernel
theorem dX10_works_144 : decode cX10_works 144 = .ok (.getfield 65, 3) := by decide +kernel
theorem dX10_works_147 : decode cX10_works 147 = .ok (.aload_n 0, 1) := by decide +kernel
theorem dX10_works_148 : decode cX10_works 148 = .ok (.getfield 98, 3) := by decide +kernel
theorem dX10_works_151 : decode cX10_works 151 = .ok (.iload_n 2, 1) := by decide +kernel
theorem dX10_works_152 : decode cX10_works 152 = .ok (.iastore, 1) := by decide +kernel
theorem dX10_works_153 : decode cX10_works 153 = .ok (.aload_n 0, 1) := by decide +kernel
theorem dX10_works_154 : decode cX10_works 154 = .ok (.getfield 68, 3) := by decide +kernel
theorem dX10_works_157 : decode cX10_works 157 = .ok (.aload_n 0, 1) := by decide +kernel
theorem dX10_works_158 : decode cX10_works 158 = .ok (.getfield 98, 3) := by decide +kernel
theorem dX10_works_161 : decode cX10_works 161 = .ok (.iload_n 3, 1) := by decide +kernel
theorem dX10_works_162 : decode cX10_works 162 = .ok (.iastore, 1) := by decide +kernel
theorem dX10_works_163 : decode cX10_works 163 = .ok (.aload_n 0, 1) := by decide +kernel
theorem dX10_works_164 : decode cX10_works 164 = .ok (.getfield 71, 3) := by decide +kernel
theorem dX10_works_167 : decode cX10_works 167 = .ok (.aload_n 0, 1) := by decide +kernel
theorem dX10_works_168 : decode cX10_works 168 = .ok (.getfield 98, 3) := by decide +kernel
theorem dX10_works_171 : decode cX10_works 171 = .ok (.iload 4, 2) := by decide +kernel
theorem dX10_works_173 : decode cX10_works 173 = .ok (.iastore, 1) := by decide +kernel
theorem dX10_works_174 : decode cX10_works 174 = .ok (.aload_n 0, 1) := by decide +kernel
theorem dX10_works_175 : decode cX10_works 175 = .ok (.getfield 74, 3) := by decide +kernel
theorem dX10_works_178 : decode cX10_works 178 = .ok (.aload_n 0, 1) := by decide +kernel
theorem dX10_works_179 : decode cX10_works 179 = .ok (.getfield 98, 3) := by decide +kernel
theorem dX10_works_182 : decode cX10_works 182 = .ok (.iload 5, 2) := by decide +kernel
theorem dX10_works_184 : decode cX10_works 184 = .ok (.iastore, 1) := by decide +kernel
theorem dX10_works_185 : decode cX10_works 185 = .ok (.aload_n 0, 1) := by decide +kernel
theorem dX10_works_186 : decode cX10_works 186 = .ok (.dup, 1) := by decide +kernel
theorem dX10_works_187 : decode cX10_works 187 = .ok (.getfield 98, 3) := by decide +kernel
theorem dX10_works_190 : decode cX10_works 190 = .ok (.iconst 1, 1) := by decide +kernel
theorem dX10_works_191 : decode cX10_works 191 = .ok (.iadd, 1) := by decide +kernel
theorem dX10_works_192 : decode cX10_works 192 = .ok (.putfield 98, 3) := by decide +kernel
theorem dX10_works_195 : decode cX10_works 195 = .ok (.aload_n 0, 1) := by decide +kernel
theorem dX10_works_196 : decode cX10_works 196 = .ok (.getfield 98, 3) := by decide +kernel
theorem dX10_works_199 : decode cX10_works 199 = .ok (.iconst 1, 1) := by decide +kernel
theorem dX10_works_200 : decode cX10_works 200 = .ok (.isub, 1) := by decide +kernel
theorem dX10_works_201 : decode cX10_works 201 = .ok (.ireturn, 1) := by decide +kernel
theorem dX10_isOn_0 : decode cX10_isOn 0 = .ok (.aload_n 0, 1) := by decide +kernel
theorem dX10_isOn_1 : decode cX10_isOn 1 = .ok (.iload_n 1, 1) := by decide +kernel
theorem dX10_isOn_2 : decode cX10_isOn 2 = .ok (.iconst 0, 1) := by decide +kernel
theorem dX10_isOn_3 : decode cX10_isOn 3 = .ok (.aload_n 0, 1) := by decide +kernel
theorem dX10_isOn_4 : decode cX10_isOn 4 = .ok (.getfield 98, 3) := by decide +kernel
theorem dX10_isOn_7 : decode cX10_isOn 7 = .ok (.iconst 1, 1) := by decide +kernel
theorem dX10_isOn_8 : decode cX10_isOn 8 = .ok (.isub, 1) := by decide +kernel
theorem dX10_isOn_9 : decode cX10_isOn 9 = .ok (.invokestatic 87, 3) := by decide +kernel
theorem dX10_isOn_12 : decode cX10_isOn 12 = .ok (.ifCond .eq 7, 3) := by decide +kernel
theorem dX10_isOn_15 : decode cX10_isOn 15 = .ok (.iconst 0, 1) := by decide +kernel
theorem dX10_isOn_16 : decode cX10_isOn 16 = .ok (.goto 4, 3) := by decide +kernel
theorem dX10_isOn_19 : decode cX10_isOn 19 = .ok (.iconst 1, 1) := by decide +kernel
theorem dX10_isOn_20 : decode cX10_isOn 20 = .ok (.invokevirtual 171, 3) := by decide +kernel
theorem dX10_isOn_23 : decode cX10_isOn 23 = .ok (.ifCond .eq 15, 3) := by decide +kernel
theorem dX10_isOn_26 : decode cX10_isOn 26 = .ok (.aload_n 0, 1) := by decide +kernel
theorem dX10_isOn_27 : decode cX10_isOn 27 = .ok (.iload_n 1, 1) := by decide +kernel
theorem dX10_isOn_28 : decode cX10_isOn 28 = .ok (.invokevirtual 101, 3) := by decide +kernel
theorem dX10_isOn_31 : decode cX10_isOn 31 = .ok (.ifCond .eq 7, 3) := by decide +kernel
theorem dX10_isOn_34 : decode cX10_isOn 34 = .ok (.iconst 1, 1) := by decide +kernel
theorem dX10_isOn_35 : decode cX10_isOn 35 = .ok (.goto 4, 3) := by decide +kernel
theorem dX10_isOn_38 : decode cX10_isOn 38 = .ok (.iconst 0, 1) := by decide +kernel
theorem dX10_isOn_39 : decode cX10_isOn 39 = .ok (.ireturn, 1) := by decide +kernel
theorem dX10_isKept_0 : decode cX10_isKept 0 = .ok (.iload_n 1, 1) := by decide +kernel
theorem dX10_isKept_1 : decode cX10_isKept 1 = .ok (.aload_n 0, 1) := by decide +kernel
theorem dX10_isKept_2 : decode cX10_isKept 2 = .ok (.getfield 95, 3) := by decide +kernel
theorem dX10_isKept_5 : decode cX10_isKept 5 = .ok (.if_icmp .gt 18, 3) := by decide +kernel
theorem dX10_isKept_8 : decode cX10_isKept 8 = .ok (.iload_n 1, 1) := by decide +kernel
theorem dX10_isKept_9 : decode cX10_isKept 9 = .ok (.aload_n 0, 1) := by decide +kernel
theorem dX10_isKept_10 : decode cX10_isKept 10 = .ok (.getfield 95, 3) := by decide +kernel
theorem dX10_isKept_13 : decode cX10_isKept 13 = .ok (.bipush 60, 2) := by decide +kernel
theorem dX10_isKept_15 : decode cX10_isKept 15 = .ok (.isub, 1) := by decide +kernel
theorem dX10_isKept_16 : decode cX10_isKept 16 = .ok (.if_icmp .le 7, 3) := by decide +kernel
theorem dX10_isKept_19 : decode cX10_isKept 19 = .ok (.iconst 1, 1) := by decide +kernel
theorem dX10_isKept_20 : decode cX10_isKept 20 = .ok (.goto 4, 3) := by decide +kernel
theorem dX10_isKept_23 : decode cX10_isKept 23 = .ok (.iconst 0, 1) := by decide +kernel
theorem dX10_isKept_24 : decode cX10_isKept 24 = .ok (.ireturn, 1) := by decide +kernel
theorem dX10_proofOf_0 : decode cX10_proofOf 0 = .ok (.aload_n 0, 1) := by decide +kernel
theorem dX10_proofOf_1 : decode cX10_proofOf 1 = .ok (.getfield 77, 3) := by decide +kernel
theorem dX10_proofOf_4 : decode cX10_proofOf 4 = .ok (.bipush 60, 2) := by decide +kernel
theorem dX10_proofOf_6 : decode cX10_proofOf 6 = .ok (.iload_n 1, 1) := by decide +kernel
theorem dX10_proofOf_7 : decode cX10_proofOf 7 = .ok (.bipush 60, 2) := by decide +kernel
theorem dX10_proofOf_9 : decode cX10_proofOf 9 = .ok (.irem, 1) := by decide +kernel
theorem dX10_proofOf_10 : decode cX10_proofOf 10 = .ok (.imul, 1) := by decide +kernel
theorem dX10_proofOf_11 : decode cX10_proofOf 11 = .ok (.iconst 5, 1) := by decide +kernel
theorem dX10_proofOf_12 : decode cX10_proofOf 12 = .ok (.iload_n 2, 1) := by decide +kernel
theorem dX10_proofOf_13 : decode cX10_proofOf 13 = .ok (.imul, 1) := by decide +kernel
theorem dX10_proofOf_14 : decode cX10_proofOf 14 = .ok (.iadd, 1) := by decide +kernel
theorem dX10_proofOf_15 : decode cX10_proofOf 15 = .ok (.iload_n 3, 1) := by decide +kernel
theorem dX10_proofOf_16 : decode cX10_proofOf 16 = .ok (.iadd, 1) := by decide +kernel
theorem dX10_proofOf_17 : decode cX10_proofOf 17 = .ok (.iaload, 1) := by decide +kernel
theorem dX10_proofOf_18 : decode cX10_proofOf 18 = .ok (.ireturn, 1) := by decide +kernel
theorem dX10_proof_0 : decode cX10_proof 0 = .ok (.aload_n 0, 1) := by decide +kernel
theorem dX10_proof_1 : decode cX10_proof 1 = .ok (.iload_n 2, 1) := by decide +kernel
theorem dX10_proof_2 : decode cX10_proof 2 = .ok (.invokestatic 91, 3) := by decide +kernel
theorem dX10_proof_5 : decode cX10_proof 5 = .ok (.ifCond .ne 7, 3) := by decide +kernel
theorem dX10_proof_8 : decode cX10_proof 8 = .ok (.iconst 1, 1) := by decide +kernel
theorem dX10_proof_9 : decode cX10_proof 9 = .ok (.goto 33, 3) := by decide +kernel
theorem dX10_proof_12 : decode cX10_proof 12 = .ok (.iload_n 1, 1) := by decide +kernel
theorem dX10_proof_13 : decode cX10_proof 13 = .ok (.ifCond .lt 12, 3) := by decide +kernel
theorem dX10_proof_16 : decode cX10_proof 16 = .ok (.iload_n 3, 1) := by decide +kernel
theorem dX10_proof_17 : decode cX10_proof 17 = .ok (.iconst 0, 1) := by decide +kernel
theorem dX10_proof_18 : decode cX10_proof 18 = .ok (.iconst 4, 1) := by decide +kernel
theorem dX10_proof_19 : decode cX10_proof 19 = .ok (.invokestatic 87, 3) := by decide +kernel
theorem dX10_proof_22 : decode cX10_proof 22 = .ok (.ifCond .ne 7, 3) := by decide +kernel
theorem dX10_proof_25 : decode cX10_proof 25 = .ok (.iconst 2, 1) := by decide +kernel
theorem dX10_proof_26 : decode cX10_proof 26 = .ok (.goto 16, 3) := by decide +kernel
theorem dX10_proof_29 : decode cX10_proof 29 = .ok (.aload_n 0, 1) := by decide +kernel
theorem dX10_proof_30 : decode cX10_proof 30 = .ok (.iload_n 1, 1) := by decide +kernel
theorem dX10_proof_31 : decode cX10_proof 31 = .ok (.invokevirtual 209, 3) := by decide +kernel
theorem dX10_proof_34 : decode cX10_proof 34 = .ok (.ifCond .eq 7, 3) := by decide +kernel
theorem dX10_proof_37 : decode cX10_proof 37 = .ok (.iconst 0, 1) := by decide +kernel
theorem dX10_proof_38 : decode cX10_proof 38 = .ok (.goto 4, 3) := by decide +kernel
theorem dX10_proof_41 : decode cX10_proof 41 = .ok (.iconst 3, 1) := by decide +kernel
theorem dX10_proof_42 : decode cX10_proof 42 = .ok (.invokevirtual 171, 3) := by decide +kernel
theorem dX10_proof_45 : decode cX10_proof 45 = .ok (.ifCond .ne 5, 3) := by decide +kernel
theorem dX10_proof_48 : decode cX10_proof 48 = .ok (.iconst 0, 1) := by decide +kernel
theorem dX10_proof_49 : decode cX10_proof 49 = .ok (.ireturn, 1) := by decide +kernel
theorem dX10_proof_50 : decode cX10_proof 50 = .ok (.aload_n 0, 1) := by decide +kernel
theorem dX10_proof_51 : decode cX10_proof 51 = .ok (.iload_n 1, 1) := by decide +kernel
theorem dX10_proof_52 : decode cX10_proof 52 = .ok (.iload_n 2, 1) := by decide +kernel
theorem dX10_proof_53 : decode cX10_proof 53 = .ok (.iload_n 3, 1) := by decide +kernel
theorem dX10_proof_54 : decode cX10_proof 54 = .ok (.invokevirtual 212, 3) := by decide +kernel
theorem dX10_proof_57 : decode cX10_proof 57 = .ok (.ireturn, 1) := by decide +kernel
theorem dX10_isFined_0 : decode cX10_isFined 0 = .ok (.aload_n 0, 1) := by decide +kernel
theorem dX10_isFined_1 : decode cX10_isFined 1 = .ok (.iload_n 2, 1) := by decide +kernel
theorem dX10_isFined_2 : decode cX10_isFined 2 = .ok (.invokestatic 91, 3) := by decide +kernel
theorem dX10_isFined_5 : decode cX10_isFined 5 = .ok (.ifCond .ne 7, 3) := by decide +kernel
theorem dX10_isFined_8 : decode cX10_isFined 8 = .ok (.iconst 1, 1) := by decide +kernel
theorem dX10_isFined_9 : decode cX10_isFined 9 = .ok (.goto 35, 3) := by decide +kernel
theorem dX10_isFined_12 : decode cX10_isFined 12 = .ok (.iload_n 1, 1) := by decide +kernel
theorem dX10_isFined_13 : decode cX10_isFined 13 = .ok (.ifCond .lt 14, 3) := by decide +kernel
theorem dX10_isFined_16 : decode cX10_isFined 16 = .ok (.iload_n 3, 1) := by decide +kernel
theorem dX10_isFined_17 : decode cX10_isFined 17 = .ok (.iconst 0, 1) := by decide +kernel
theorem dX10_isFined_18 : decode cX10_isFined 18 = .ok (.sipush 250, 3) := by decide +kernel
theorem dX10_isFined_21 : decode cX10_isFined 21 = .ok (.invokestatic 87, 3) := by decide +kernel
theorem dX10_isFined_24 : decode cX10_isFined 24 = .ok (.ifCond .ne 7, 3) := by decide +kernel
theorem dX10_isFined_27 : decode cX10_isFined 27 = .ok (.iconst 2, 1) := by decide +kernel
theorem dX10_isFined_28 : decode cX10_isFined 28 = .ok (.goto 16, 3) := by decide +kernel
theorem dX10_isFined_31 : decode cX10_isFined 31 = .ok (.aload_n 0, 1) := by decide +kernel
theorem dX10_isFined_32 : decode cX10_isFined 32 = .ok (.iload_n 1, 1) := by decide +kernel
theorem dX10_isFined_33 : decode cX10_isFined 33 = .ok (.invokevirtual 209, 3) := by decide +kernel
theorem dX10_isFined_36 : decode cX10_isFined 36 = .ok (.ifCond .eq 7, 3) := by decide +kernel
theorem dX10_isFined_39 : decode cX10_isFined 39 = .ok (.iconst 0, 1) := by decide +kernel
theorem dX10_isFined_40 : decode cX10_isFined 40 = .ok (.goto 4, 3) := by decide +kernel
theorem dX10_isFined_43 : decode cX10_isFined 43 = .ok (.iconst 3, 1) := by decide +kernel
theorem dX10_isFined_44 : decode cX10_isFined 44 = .ok (.invokevirtual 171, 3) := by decide +kernel
theorem dX10_isFined_47 : decode cX10_isFined 47 = .ok (.ifCond .ne 5, 3) := by decide +kernel
theorem dX10_isFined_50 : decode cX10_isFined 50 = .ok (.iconst 0, 1) := by decide +kernel
theorem dX10_isFined_51 : decode cX10_isFined 51 = .ok (.ireturn, 1) := by decide +kernel
theorem dX10_isFined_52 : decode cX10_isFined 52 = .ok (.iload_n 3, 1) := by decide +kernel
theorem dX10_isFined_53 : decode cX10_isFined 53 = .ok (.aload_n 0, 1) := by decide +kernel
theorem dX10_isFined_54 : decode cX10_isFined 54 = .ok (.iload_n 1, 1) := by decide +kernel
theorem dX10_isFined_55 : decode cX10_isFined 55 = .ok (.iload_n 2, 1) := by decide +kernel
theorem dX10_isFined_56 : decode cX10_isFined 56 = .ok (.iconst 0, 1) := by decide +kernel
theorem dX10_isFined_57 : decode cX10_isFined 57 = .ok (.invokevirtual 212, 3) := by decide +kernel
theorem dX10_isFined_60 : decode cX10_isFined 60 = .ok (.bipush 10, 2) := by decide +kernel
theorem dX10_isFined_62 : decode cX10_isFined 62 = .ok (.iadd, 1) := by decide +kernel
theorem dX10_isFined_63 : decode cX10_isFined 63 = .ok (.if_icmp .lt 7, 3) := by decide +kernel
theorem dX10_isFined_66 : decode cX10_isFined 66 = .ok (.iconst 1, 1) := by decide +kernel
theorem dX10_isFined_67 : decode cX10_isFined 67 = .ok (.goto 4, 3) := by decide +kernel
theorem dX10_isFined_70 : decode cX10_isFined 70 = .ok (.iconst 0, 1) := by decide +kernel
theorem dX10_isFined_71 : decode cX10_isFined 71 = .ok (.ireturn, 1) := by decide +kernel
theorem dJ9_floorMod_7cf53_0 : decode cJ9_floorMod_7cf53 0 = .ok (.iload_n 0, 1) := by decide +kernel
theorem dJ9_floorMod_7cf53_1 : decode cJ9_floorMod_7cf53 1 = .ok (.iload_n 1, 1) := by decide +kernel
theorem dJ9_floorMod_7cf53_2 : decode cJ9_floorMod_7cf53 2 = .ok (.irem, 1) := by decide +kernel
theorem dJ9_floorMod_7cf53_3 : decode cJ9_floorMod_7cf53 3 = .ok (.istore_n 2, 1) := by decide +kernel
theorem dJ9_floorMod_7cf53_4 : decode cJ9_floorMod_7cf53 4 = .ok (.iload_n 0, 1) := by decide +kernel
theorem dJ9_floorMod_7cf53_5 : decode cJ9_floorMod_7cf53 5 = .ok (.iload_n 1, 1) := by decide +kernel
theorem dJ9_floorMod_7cf53_6 : decode cJ9_floorMod_7cf53 6 = .ok (.ixor, 1) := by decide +kernel
theorem dJ9_floorMod_7cf53_7 : decode cJ9_floorMod_7cf53 7 = .ok (.ifCond .ge 11, 3) := by decide +kernel
theorem dJ9_floorMod_7cf53_10 : decode cJ9_floorMod_7cf53 10 = .ok (.iload_n 2, 1) := by decide +kernel
theorem dJ9_floorMod_7cf53_11 : decode cJ9_floorMod_7cf53 11 = .ok (.ifCond .eq 7, 3) := by decide +kernel
theorem dJ9_floorMod_7cf53_14 : decode cJ9_floorMod_7cf53 14 = .ok (.iload_n 2, 1) := by decide +kernel
theorem dJ9_floorMod_7cf53_15 : decode cJ9_floorMod_7cf53 15 = .ok (.iload_n 1, 1) := by decide +kernel
theorem dJ9_floorMod_7cf53_16 : decode cJ9_floorMod_7cf53 16 = .ok (.iadd, 1) := by decide +kernel
theorem dJ9_floorMod_7cf53_17 : decode cJ9_floorMod_7cf53 17 = .ok (.ireturn, 1) := by decide +kernel
theorem dJ9_floorMod_7cf53_18 : decode cJ9_floorMod_7cf53 18 = .ok (.iload_n 2, 1) := by decide +kernel
theorem dJ9_floorMod_7cf53_19 : decode cJ9_floorMod_7cf53 19 = .ok (.ireturn, 1) := by decide +kernel
theorem dL_demand_0 : decode cL_demand 0 = .ok (.aload_n 2, 1) := by decide +kernel
theorem dL_demand_1 : decode cL_demand 1 = .ok (.iconst 0, 1) := by decide +kernel
theorem dL_demand_2 : decode cL_demand 2 = .ok (.aload_n 0, 1) := by decide +kernel
theorem dL_demand_3 : decode cL_demand 3 = .ok (.iload_n 1, 1) := by decide +kernel
theorem dL_demand_4 : decode cL_demand 4 = .ok (.invokevirtual 7, 3) := by decide +kernel
theorem dL_demand_7 : decode cL_demand 7 = .ok (.i2l, 1) := by decide +kernel
theorem dL_demand_8 : decode cL_demand 8 = .ok (.lastore, 1) := by decide +kernel
theorem dL_demand_9 : decode cL_demand 9 = .ok (.goto 6, 3) := by decide +kernel
theorem dL_demand_12 : decode cL_demand 12 = .ok (.astore_n 3, 1) := by decide +kernel
theorem dL_demand_13 : decode cL_demand 13 = .ok (.iconst 1, 1) := by decide +kernel
theorem dL_demand_14 : decode cL_demand 14 = .ok (.ireturn, 1) := by decide +kernel
theorem dL_demand_15 : decode cL_demand 15 = .ok (.iconst 0, 1) := by decide +kernel
theorem dL_demand_16 : decode cL_demand 16 = .ok (.ireturn, 1) := by decide +kernel
theorem dL_pass_0 : decode cL_pass 0 = .ok (.aload_n 2, 1) := by decide +kernel
theorem dL_pass_1 : decode cL_pass 1 = .ok (.iconst 0, 1) := by decide +kernel
theorem dL_pass_2 : decode cL_pass 2 = .ok (.aload_n 0, 1) := by decide +kernel
theorem dL_pass_3 : decode cL_pass 3 = .ok (.iload_n 1, 1) := by decide +kernel
theorem dL_pass_4 : decode cL_pass 4 = .ok (.invokevirtual 15, 3) := by decide +kernel
theorem dL_pass_7 : decode cL_pass 7 = .ok (.i2l, 1) := by decide +kernel
theorem dL_pass_8 : decode cL_pass 8 = .ok (.lastore, 1) := by decide +kernel
theorem dL_pass_9 : decode cL_pass 9 = .ok (.goto 9, 3) := by decide +kernel
theorem dL_pass_12 : decode cL_pass 12 = .ok (.astore_n 3, 1) := by decide +kernel
theorem dL_pass_13 : decode cL_pass 13 = .ok (.iconst 1, 1) := by decide +kernel
theorem dL_pass_14 : decode cL_pass 14 = .ok (.ireturn, 1) := by decide +kernel
theorem dL_pass_15 : decode cL_pass 15 = .ok (.astore_n 3, 1) := by decide +kernel
theorem dL_pass_16 : decode cL_pass 16 = .ok (.iconst 2, 1) := by decide +kernel
theorem dL_pass_17 : decode cL_pass 17 = .ok (.ireturn, 1) := by decide +kernel
theorem dL_pass_18 : decode cL_pass 18 = .ok (.iconst 0, 1) := by decide +kernel
theorem dL_pass_19 : decode cL_pass 19 = .ok (.ireturn, 1) := by decide +kernel
theorem dL_holds_0 : decode cL_holds 0 = .ok (.aload_n 3, 1) := by decide +kernel
theorem dL_holds_1 : decode cL_holds 1 = .ok (.iconst 0, 1) := by decide +kernel
theorem dL_holds_2 : decode cL_holds 2 = .ok (.aload_n 0, 1) := by decide +kernel
theorem dL_holds_3 : decode cL_holds 3 = .ok (.iload_n 1, 1) := by decide +kernel
theorem dL_holds_4 : decode cL_holds 4 = .ok (.iload_n 2, 1) := by decide +kernel
theorem dL_holds_5 : decode cL_holds 5 = .ok (.invokevirtual 20, 3) := by decide +kernel
theorem dL_holds_8 : decode cL_holds 8 = .ok (.i2l, 1) := by decide +kernel
theorem dL_holds_9 : decode cL_holds 9 = .ok (.lastore, 1) := by decide +kernel
theorem dL_holds_10 : decode cL_holds 10 = .ok (.goto 7, 3) := by decide +kernel
theorem dL_holds_13 : decode cL_holds 13 = .ok (.astore 4, 2) := by decide +kernel
theorem dL_holds_15 : decode cL_holds 15 = .ok (.iconst 1, 1) := by decide +kernel
theorem dL_holds_16 : decode cL_holds 16 = .ok (.ireturn, 1) := by decide +kernel
theorem dL_holds_17 : decode cL_holds 17 = .ok (.iconst 0, 1) := by decide +kernel
theorem dL_holds_18 : decode cL_holds 18 = .ok (.ireturn, 1) := by decide +kernel
theorem dL_vehicles_0 : decode cL_vehicles 0 = .ok (.aload_n 2, 1) := by decide +kernel
theorem dL_vehicles_1 : decode cL_vehicles 1 = .ok (.iconst 0, 1) := by decide +kernel
theorem dL_vehicles_2 : decode cL_vehicles 2 = .ok (.aload_n 0, 1) := by decide +kernel
theorem dL_vehicles_3 : decode cL_vehicles 3 = .ok (.iload_n 1, 1) := by decide +kernel
theorem dL_vehicles_4 : decode cL_vehicles 4 = .ok (.invokevirtual 26, 3) := by decide +kernel
theorem dL_vehicles_7 : decode cL_vehicles 7 = .ok (.i2l, 1) := by decide +kernel
theorem dL_vehicles_8 : decode cL_vehicles 8 = .ok (.lastore, 1) := by decide +kernel
theorem dL_vehicles_9 : decode cL_vehicles 9 = .ok (.goto 6, 3) := by decide +kernel
theorem dL_vehicles_12 : decode cL_vehicles 12 = .ok (.astore_n 3, 1) := by decide +kernel
theorem dL_vehicles_13 : decode cL_vehicles 13 = .ok (.iconst 1, 1) := by decide +kernel
theorem dL_vehicles_14 : decode cL_vehicles 14 = .ok (.ireturn, 1) := by decide +kernel
theorem dL_vehicles_15 : decode cL_vehicles 15 = .ok (.iconst 0, 1) := by decide +kernel
theorem dL_vehicles_16 : decode cL_vehicles 16 = .ok (.ireturn, 1) := by decide +kernel
theorem dL_section_0 : decode cL_section 0 = .ok (.aload_n 3, 1) := by decide +kernel
theorem dL_section_1 : decode cL_section 1 = .ok (.iconst 0, 1) := by decide +kernel
theorem dL_section_2 : decode cL_section 2 = .ok (.aload_n 0, 1) := by decide +kernel
theorem dL_section_3 : decode cL_section 3 = .ok (.iload_n 1, 1) := by decide +kernel
theorem dL_section_4 : decode cL_section 4 = .ok (.iload_n 2, 1) := by decide +kernel
theorem dL_section_5 : decode cL_section 5 = .ok (.invokevirtual 29, 3) := by decide +kernel
theorem dL_section_8 : decode cL_section 8 = .ok (.i2l, 1) := by decide +kernel
theorem dL_section_9 : decode cL_section 9 = .ok (.lastore, 1) := by decide +kernel
theorem dL_section_10 : decode cL_section 10 = .ok (.goto 11, 3) := by decide +kernel
theorem dL_section_13 : decode cL_section 13 = .ok (.astore 4, 2) := by decide +kernel
theorem dL_section_15 : decode cL_section 15 = .ok (.iconst 1, 1) := by decide +kernel
theorem dL_section_16 : decode cL_section 16 = .ok (.ireturn, 1) := by decide +kernel
theorem dL_section_17 : decode cL_section 17 = .ok (.astore 4, 2) := by decide +kernel
theorem dL_section_19 : decode cL_section 19 = .ok (.iconst 2, 1) := by decide +kernel
theorem dL_section_20 : decode cL_section 20 = .ok (.ireturn, 1) := by decide +kernel
theorem dL_section_21 : decode cL_section 21 = .ok (.iconst 0, 1) := by decide +kernel
theorem dL_section_22 : decode cL_section 22 = .ok (.ireturn, 1) := by decide +kernel
theorem dL_detector_0 : decode cL_detector 0 = .ok (.aload 4, 2) := by decide +kernel
theorem dL_detector_2 : decode cL_detector 2 = .ok (.iconst 0, 1) := by decide +kernel
theorem dL_detector_3 : decode cL_detector 3 = .ok (.aload_n 0, 1) := by decide +kernel
theorem dL_detector_4 : decode cL_detector 4 = .ok (.iload_n 1, 1) := by decide +kernel
theorem dL_detector_5 : decode cL_detector 5 = .ok (.iload_n 2, 1) := by decide +kernel
theorem dL_detector_6 : decode cL_detector 6 = .ok (.iload_n 3, 1) := by decide +kernel
theorem dL_detector_7 : decode cL_detector 7 = .ok (.invokevirtual 32, 3) := by decide +kernel
theorem dL_detector_10 : decode cL_detector 10 = .ok (.i2l, 1) := by decide +kernel
theorem dL_detector_11 : decode cL_detector 11 = .ok (.lastore, 1) := by decide +kernel
theorem dL_detector_12 : decode cL_detector 12 = .ok (.goto 11, 3) := by decide +kernel
theorem dL_detector_15 : decode cL_detector 15 = .ok (.astore 5, 2) := by decide +kernel
theorem dL_detector_17 : decode cL_detector 17 = .ok (.iconst 1, 1) := by decide +kernel
theorem dL_detector_18 : decode cL_detector 18 = .ok (.ireturn, 1) := by decide +kernel
theorem dL_detector_19 : decode cL_detector 19 = .ok (.astore 5, 2) := by decide +kernel
theorem dL_detector_21 : decode cL_detector 21 = .ok (.iconst 2, 1) := by decide +kernel
theorem dL_detector_22 : decode cL_detector 22 = .ok (.ireturn, 1) := by decide +kernel
theorem dL_detector_23 : decode cL_detector 23 = .ok (.iconst 0, 1) := by decide +kernel
theorem dL_detector_24 : decode cL_detector 24 = .ok (.ireturn, 1) := by decide +kernel
theorem dL_weather_0 : decode cL_weather 0 = .ok (.aload_n 2, 1) := by decide +kernel
theorem dL_weather_1 : decode cL_weather 1 = .ok (.iconst 0, 1) := by decide +kernel
theorem dL_weather_2 : decode cL_weather 2 = .ok (.aload_n 0, 1) := by decide +kernel
theorem dL_weather_3 : decode cL_weather 3 = .ok (.iload_n 1, 1) := by decide +kernel
theorem dL_weather_4 : decode cL_weather 4 = .ok (.invokevirtual 36, 3) := by decide +kernel
theorem dL_weather_7 : decode cL_weather 7 = .ok (.i2l, 1) := by decide +kernel
theorem dL_weather_8 : decode cL_weather 8 = .ok (.lastore, 1) := by decide +kernel
theorem dL_weather_9 : decode cL_weather 9 = .ok (.goto 6, 3) := by decide +kernel
theorem dL_weather_12 : decode cL_weather 12 = .ok (.astore_n 3, 1) := by decide +kernel
theorem dL_weather_13 : decode cL_weather 13 = .ok (.iconst 1, 1) := by decide +kernel
theorem dL_weather_14 : decode cL_weather 14 = .ok (.ireturn, 1) := by decide +kernel
theorem dL_weather_15 : decode cL_weather 15 = .ok (.iconst 0, 1) := by decide +kernel
theorem dL_weather_16 : decode cL_weather 16 = .ok (.ireturn, 1) := by decide +kernel
theorem dL_limit_0 : decode cL_limit 0 = .ok (.aload_n 3, 1) := by decide +kernel
theorem dL_limit_1 : decode cL_limit 1 = .ok (.iconst 0, 1) := by decide +kernel
theorem dL_limit_2 : decode cL_limit 2 = .ok (.aload_n 0, 1) := by decide +kernel
theorem dL_limit_3 : decode cL_limit 3 = .ok (.iload_n 1, 1) := by decide +kernel
theorem dL_limit_4 : decode cL_limit 4 = .ok (.iload_n 2, 1) := by decide +kernel
theorem dL_limit_5 : decode cL_limit 5 = .ok (.invokevirtual 39, 3) := by decide +kernel
theorem dL_limit_8 : decode cL_limit 8 = .ok (.i2l, 1) := by decide +kernel
theorem dL_limit_9 : decode cL_limit 9 = .ok (.lastore, 1) := by decide +kernel
theorem dL_limit_10 : decode cL_limit 10 = .ok (.goto 11, 3) := by decide +kernel
theorem dL_limit_13 : decode cL_limit 13 = .ok (.astore 4, 2) := by decide +kernel
theorem dL_limit_15 : decode cL_limit 15 = .ok (.iconst 1, 1) := by decide +kernel
theorem dL_limit_16 : decode cL_limit 16 = .ok (.ireturn, 1) := by decide +kernel
theorem dL_limit_17 : decode cL_limit 17 = .ok (.astore 4, 2) := by decide +kernel
theorem dL_limit_19 : decode cL_limit 19 = .ok (.iconst 2, 1) := by decide +kernel
theorem dL_limit_20 : decode cL_limit 20 = .ok (.ireturn, 1) := by decide +kernel
theorem dL_limit_21 : decode cL_limit 21 = .ok (.iconst 0, 1) := by decide +kernel
theorem dL_limit_22 : decode cL_limit 22 = .ok (.ireturn, 1) := by decide +kernel
theorem dL_order_0 : decode cL_order 0 = .ok (.aload 4, 2) := by decide +kernel
theorem dL_order_2 : decode cL_order 2 = .ok (.iconst 0, 1) := by decide +kernel
theorem dL_order_3 : decode cL_order 3 = .ok (.aload_n 0, 1) := by decide +kernel
theorem dL_order_4 : decode cL_order 4 = .ok (.iload_n 1, 1) := by decide +kernel
theorem dL_order_5 : decode cL_order 5 = .ok (.iload_n 2, 1) := by decide +kernel
theorem dL_order_6 : decode cL_order 6 = .ok (.iload_n 3, 1) := by decide +kernel
theorem dL_order_7 : decode cL_order 7 = .ok (.invokevirtual 42, 3) := by decide +kernel
theorem dL_order_10 : decode cL_order 10 = .ok (.i2l, 1) := by decide +kernel
theorem dL_order_11 : decode cL_order 11 = .ok (.lastore, 1) := by decide +kernel
theorem dL_order_12 : decode cL_order 12 = .ok (.goto 15, 3) := by decide +kernel
theorem dL_order_15 : decode cL_order 15 = .ok (.astore 5, 2) := by decide +kernel
theorem dL_order_17 : decode cL_order 17 = .ok (.iconst 1, 1) := by decide +kernel
theorem dL_order_18 : decode cL_order 18 = .ok (.ireturn, 1) := by decide +kernel
theorem dL_order_19 : decode cL_order 19 = .ok (.astore 5, 2) := by decide +kernel
theorem dL_order_21 : decode cL_order 21 = .ok (.iconst 2, 1) := by decide +kernel
theorem dL_order_22 : decode cL_order 22 = .ok (.ireturn, 1) := by decide +kernel
theorem dL_order_23 : decode cL_order 23 = .ok (.astore 5, 2) := by decide +kernel
theorem dL_order_25 : decode cL_order 25 = .ok (.iconst 3, 1) := by decide +kernel
theorem dL_order_26 : decode cL_order 26 = .ok (.ireturn, 1) := by decide +kernel
theorem dL_order_27 : decode cL_order 27 = .ok (.iconst 0, 1) := by decide +kernel
theorem dL_order_28 : decode cL_order 28 = .ok (.ireturn, 1) := by decide +kernel
theorem dL_sign_0 : decode cL_sign 0 = .ok (.aload_n 3, 1) := by decide +kernel
theorem dL_sign_1 : decode cL_sign 1 = .ok (.iconst 0, 1) := by decide +kernel
theorem dL_sign_2 : decode cL_sign 2 = .ok (.aload_n 0, 1) := by decide +kernel
theorem dL_sign_3 : decode cL_sign 3 = .ok (.iload_n 1, 1) := by decide +kernel
theorem dL_sign_4 : decode cL_sign 4 = .ok (.iload_n 2, 1) := by decide +kernel
theorem dL_sign_5 : decode cL_sign 5 = .ok (.invokevirtual 45, 3) := by decide +kernel
theorem dL_sign_8 : decode cL_sign 8 = .ok (.i2l, 1) := by decide +kernel
theorem dL_sign_9 : decode cL_sign 9 = .ok (.lastore, 1) := by decide +kernel
theorem dL_sign_10 : decode cL_sign 10 = .ok (.goto 7, 3) := by decide +kernel
theorem dL_sign_13 : decode cL_sign 13 = .ok (.astore 4, 2) := by decide +kernel
theorem dL_sign_15 : decode cL_sign 15 = .ok (.iconst 1, 1) := by decide +kernel
theorem dL_sign_16 : decode cL_sign 16 = .ok (.ireturn, 1) := by decide +kernel
theorem dL_sign_17 : decode cL_sign 17 = .ok (.iconst 0, 1) := by decide +kernel
theorem dL_sign_18 : decode cL_sign 18 = .ok (.ireturn, 1) := by decide +kernel
theorem dL_look_0 : decode cL_look 0 = .ok (.aload_n 2, 1) := by decide +kernel
theorem dL_look_1 : decode cL_look 1 = .ok (.iconst 0, 1) := by decide +kernel
theorem dL_look_2 : decode cL_look 2 = .ok (.aload_n 0, 1) := by decide +kernel
theorem dL_look_3 : decode cL_look 3 = .ok (.iload_n 1, 1) := by decide +kernel
theorem dL_look_4 : decode cL_look 4 = .ok (.invokevirtual 48, 3) := by decide +kernel
theorem dL_look_7 : decode cL_look 7 = .ok (.ifCond .eq 7, 3) := by decide +kernel
theorem dL_look_10 : decode cL_look 10 = .ok (.lconst 1, 1) := by decide +kernel
theorem dL_look_11 : decode cL_look 11 = .ok (.goto 4, 3) := by decide +kernel
theorem dL_look_14 : decode cL_look 14 = .ok (.lconst 0, 1) := by decide +kernel
theorem dL_look_15 : decode cL_look 15 = .ok (.lastore, 1) := by decide +kernel
theorem dL_look_16 : decode cL_look 16 = .ok (.goto 6, 3) := by decide +kernel
theorem dL_look_19 : decode cL_look 19 = .ok (.astore_n 3, 1) := by decide +kernel
theorem dL_look_20 : decode cL_look 20 = .ok (.iconst 1, 1) := by decide +kernel
theorem dL_look_21 : decode cL_look 21 = .ok (.ireturn, 1) := by decide +kernel
theorem dL_look_22 : decode cL_look 22 = .ok (.iconst 0, 1) := by decide +kernel
theorem dL_look_23 : decode cL_look 23 = .ok (.ireturn, 1) := by decide +kernel
theorem dL_openShoulder_0 : decode cL_openShoulder 0 = .ok (.aload_n 3, 1) := by decide +kernel
theorem dL_openShoulder_1 : decode cL_openShoulder 1 = .ok (.iconst 0, 1) := by decide +kernel
theorem dL_openShoulder_2 : decode cL_openShoulder 2 = .ok (.aload_n 0, 1) := by decide +kernel
theorem dL_openShoulder_3 : decode cL_openShoulder 3 = .ok (.iload_n 1, 1) := by decide +kernel
theorem dL_openShoulder_4 : decode cL_openShoulder 4 = .ok (.iload_n 2, 1) := by decide +kernel
theorem dL_openShoulder_5 : decode cL_openShoulder 5 = .ok (.invokevirtual 52, 3) := by decide +kernel
theorem dL_openShoulder_8 : decode cL_openShoulder 8 = .ok (.i2l, 1) := by decide +kernel
theorem dL_openShoulder_9 : decode cL_openShoulder 9 = .ok (.lastore, 1) := by decide +kernel
theorem dL_openShoulder_10 : decode cL_openShoulder 10 = .ok (.goto 15, 3) := by decide +kernel
theorem dL_openShoulder_13 : decode cL_openShoulder 13 = .ok (.astore 4, 2) := by decide +kernel
theorem dL_openShoulder_15 : decode cL_openShoulder 15 = .ok (.iconst 1, 1) := by decide +kernel
theorem dL_openShoulder_16 : decode cL_openShoulder 16 = .ok (.ireturn, 1) := by decide +kernel
theorem dL_openShoulder_17 : decode cL_openShoulder 17 = .ok (.astore 4, 2) := by decide +kernel
theorem dL_openShoulder_19 : decode cL_openShoulder 19 = .ok (.iconst 2, 1) := by decide +kernel
theorem dL_openShoulder_20 : decode cL_openShoulder 20 = .ok (.ireturn, 1) := by decide +kernel
theorem dL_openShoulder_21 : decode cL_openShoulder 21 = .ok (.astore 4, 2) := by decide +kernel
theorem dL_openShoulder_23 : decode cL_openShoulder 23 = .ok (.iconst 3, 1) := by decide +kernel
theorem dL_openShoulder_24 : decode cL_openShoulder 24 = .ok (.ireturn, 1) := by decide +kernel
theorem dL_openShoulder_25 : decode cL_openShoulder 25 = .ok (.iconst 0, 1) := by decide +kernel
theorem dL_openShoulder_26 : decode cL_openShoulder 26 = .ok (.ireturn, 1) := by decide +kernel
theorem dL_stop_0 : decode cL_stop 0 = .ok (.aload_n 0, 1) := by decide +kernel
theorem dL_stop_1 : decode cL_stop 1 = .ok (.iload_n 1, 1) := by decide +kernel
theorem dL_stop_2 : decode cL_stop 2 = .ok (.iload_n 2, 1) := by decide +kernel
theorem dL_stop_3 : decode cL_stop 3 = .ok (.invokevirtual 55, 3) := by decide +kernel
theorem dL_stop_6 : decode cL_stop 6 = .ok (.goto 9, 3) := by decide +kernel
theorem dL_stop_9 : decode cL_stop 9 = .ok (.astore_n 3, 1) := by decide +kernel
theorem dL_stop_10 : decode cL_stop 10 = .ok (.iconst 1, 1) := by decide +kernel
theorem dL_stop_11 : decode cL_stop 11 = .ok (.ireturn, 1) := by decide +kernel
theorem dL_stop_12 : decode cL_stop 12 = .ok (.astore_n 3, 1) := by decide +kernel
theorem dL_stop_13 : decode cL_stop 13 = .ok (.iconst 2, 1) := by decide +kernel
theorem dL_stop_14 : decode cL_stop 14 = .ok (.ireturn, 1) := by decide +kernel
theorem dL_stop_15 : decode cL_stop 15 = .ok (.iconst 0, 1) := by decide +kernel
theorem dL_stop_16 : decode cL_stop 16 = .ok (.ireturn, 1) := by decide +kernel
theorem dL_report_0 : decode cL_report 0 = .ok (.aload_n 3, 1) := by decide +kernel
theorem dL_report_1 : decode cL_report 1 = .ok (.iconst 0, 1) := by decide +kernel
theorem dL_report_2 : decode cL_report 2 = .ok (.aload_n 0, 1) := by decide +kernel
theorem dL_report_3 : decode cL_report 3 = .ok (.iload_n 1, 1) := by decide +kernel
theorem dL_report_4 : decode cL_report 4 = .ok (.iload_n 2, 1) := by decide +kernel
theorem dL_report_5 : decode cL_report 5 = .ok (.invokevirtual 59, 3) := by decide +kernel
theorem dL_report_8 : decode cL_report 8 = .ok (.i2l, 1) := by decide +kernel
theorem dL_report_9 : decode cL_report 9 = .ok (.lastore, 1) := by decide +kernel
theorem dL_report_10 : decode cL_report 10 = .ok (.goto 11, 3) := by decide +kernel
theorem dL_report_13 : decode cL_report 13 = .ok (.astore 4, 2) := by decide +kernel
theorem dL_report_15 : decode cL_report 15 = .ok (.iconst 1, 1) := by decide +kernel
theorem dL_report_16 : decode cL_report 16 = .ok (.ireturn, 1) := by decide +kernel
theorem dL_report_17 : decode cL_report 17 = .ok (.astore 4, 2) := by decide +kernel
theorem dL_report_19 : decode cL_report 19 = .ok (.iconst 2, 1) := by decide +kernel
theorem dL_report_20 : decode cL_report 20 = .ok (.ireturn, 1) := by decide +kernel
theorem dL_report_21 : decode cL_report 21 = .ok (.iconst 0, 1) := by decide +kernel
theorem dL_report_22 : decode cL_report 22 = .ok (.ireturn, 1) := by decide +kernel
theorem dL_confirm_0 : decode cL_confirm 0 = .ok (.aload_n 2, 1) := by decide +kernel
theorem dL_confirm_1 : decode cL_confirm 1 = .ok (.iconst 0, 1) := by decide +kernel
theorem dL_confirm_2 : decode cL_confirm 2 = .ok (.aload_n 0, 1) := by decide +kernel
theorem dL_confirm_3 : decode cL_confirm 3 = .ok (.iload_n 1, 1) := by decide +kernel
theorem dL_confirm_4 : decode cL_confirm 4 = .ok (.invokevirtual 62, 3) := by decide +kernel
theorem dL_confirm_7 : decode cL_confirm 7 = .ok (.i2l, 1) := by decide +kernel
theorem dL_confirm_8 : decode cL_confirm 8 = .ok (.lastore, 1) := by decide +kernel
theorem dL_confirm_9 : decode cL_confirm 9 = .ok (.goto 9, 3) := by decide +kernel
theorem dL_confirm_12 : decode cL_confirm 12 = .ok (.astore_n 3, 1) := by decide +kernel
theorem dL_confirm_13 : decode cL_confirm 13 = .ok (.iconst 1, 1) := by decide +kernel
theorem dL_confirm_14 : decode cL_confirm 14 = .ok (.ireturn, 1) := by decide +kernel
theorem dL_confirm_15 : decode cL_confirm 15 = .ok (.astore_n 3, 1) := by decide +kernel
theorem dL_confirm_16 : decode cL_confirm 16 = .ok (.iconst 2, 1) := by decide +kernel
theorem dL_confirm_17 : decode cL_confirm 17 = .ok (.ireturn, 1) := by decide +kernel
theorem dL_confirm_18 : decode cL_confirm 18 = .ok (.iconst 0, 1) := by decide +kernel
theorem dL_confirm_19 : decode cL_confirm 19 = .ok (.ireturn, 1) := by decide +kernel
theorem dL_incident_0 : decode cL_incident 0 = .ok (.aload_n 3, 1) := by decide +kernel
theorem dL_incident_1 : decode cL_incident 1 = .ok (.iconst 0, 1) := by decide +kernel
theorem dL_incident_2 : decode cL_incident 2 = .ok (.aload_n 0, 1) := by decide +kernel
theorem dL_incident_3 : decode cL_incident 3 = .ok (.iload_n 1, 1) := by decide +kernel
theorem dL_incident_4 : decode cL_incident 4 = .ok (.iload_n 2, 1) := by decide +kernel
theorem dL_incident_5 : decode cL_incident 5 = .ok (.invokevirtual 65, 3) := by decide +kernel
theorem dL_incident_8 : decode cL_incident 8 = .ok (.i2l, 1) := by decide +kernel
theorem dL_incident_9 : decode cL_incident 9 = .ok (.lastore, 1) := by decide +kernel
theorem dL_incident_10 : decode cL_incident 10 = .ok (.goto 11, 3) := by decide +kernel
theorem dL_incident_13 : decode cL_incident 13 = .ok (.astore 4, 2) := by decide +kernel
theorem dL_incident_15 : decode cL_incident 15 = .ok (.iconst 1, 1) := by decide +kernel
theorem dL_incident_16 : decode cL_incident 16 = .ok (.ireturn, 1) := by decide +kernel
theorem dL_incident_17 : decode cL_incident 17 = .ok (.astore 4, 2) := by decide +kernel
theorem dL_incident_19 : decode cL_incident 19 = .ok (.iconst 2, 1) := by decide +kernel
theorem dL_incident_20 : decode cL_incident 20 = .ok (.ireturn, 1) := by decide +kernel
theorem dL_incident_21 : decode cL_incident 21 = .ok (.iconst 0, 1) := by decide +kernel
theorem dL_incident_22 : decode cL_incident 22 = .ok (.ireturn, 1) := by decide +kernel
theorem dL_way_0 : decode cL_way 0 = .ok (.aload_n 3, 1) := by decide +kernel
theorem dL_way_1 : decode cL_way 1 = .ok (.iconst 0, 1) := by decide +kernel
theorem dL_way_2 : decode cL_way 2 = .ok (.aload_n 0, 1) := by decide +kernel
theorem dL_way_3 : decode cL_way 3 = .ok (.iload_n 1, 1) := by decide +kernel
theorem dL_way_4 : decode cL_way 4 = .ok (.iload_n 2, 1) := by decide +kernel
theorem dL_way_5 : decode cL_way 5 = .ok (.invokevirtual 68, 3) := by decide +kernel
theorem dL_way_8 : decode cL_way 8 = .ok (.i2l, 1) := by decide +kernel
theorem dL_way_9 : decode cL_way 9 = .ok (.lastore, 1) := by decide +kernel
theorem dL_way_10 : decode cL_way 10 = .ok (.goto 7, 3) := by decide +kernel
theorem dL_way_13 : decode cL_way 13 = .ok (.astore 4, 2) := by decide +kernel
theorem dL_way_15 : decode cL_way 15 = .ok (.iconst 1, 1) := by decide +kernel
theorem dL_way_16 : decode cL_way 16 = .ok (.ireturn, 1) := by decide +kernel
theorem dL_way_17 : decode cL_way 17 = .ok (.iconst 0, 1) := by decide +kernel
theorem dL_way_18 : decode cL_way 18 = .ok (.ireturn, 1) := by decide +kernel
theorem dL_send_0 : decode cL_send 0 = .ok (.aload_n 3, 1) := by decide +kernel
theorem dL_send_1 : decode cL_send 1 = .ok (.iconst 0, 1) := by decide +kernel
theorem dL_send_2 : decode cL_send 2 = .ok (.aload_n 0, 1) := by decide +kernel
theorem dL_send_3 : decode cL_send 3 = .ok (.iload_n 1, 1) := by decide +kernel
theorem dL_send_4 : decode cL_send 4 = .ok (.iload_n 2, 1) := by decide +kernel
theorem dL_send_5 : decode cL_send 5 = .ok (.invokevirtual 71, 3) := by decide +kernel
theorem dL_send_8 : decode cL_send 8 = .ok (.i2l, 1) := by decide +kernel
theorem dL_send_9 : decode cL_send 9 = .ok (.lastore, 1) := by decide +kernel
theorem dL_send_10 : decode cL_send 10 = .ok (.goto 11, 3) := by decide +kernel
theorem dL_send_13 : decode cL_send 13 = .ok (.astore 4, 2) := by decide +kernel
theorem dL_send_15 : decode cL_send 15 = .ok (.iconst 1, 1) := by decide +kernel
theorem dL_send_16 : decode cL_send 16 = .ok (.ireturn, 1) := by decide +kernel
theorem dL_send_17 : decode cL_send 17 = .ok (.astore 4, 2) := by decide +kernel
theorem dL_send_19 : decode cL_send 19 = .ok (.iconst 2, 1) := by decide +kernel
theorem dL_send_20 : decode cL_send 20 = .ok (.ireturn, 1) := by decide +kernel
theorem dL_send_21 : decode cL_send 21 = .ok (.iconst 0, 1) := by decide +kernel
theorem dL_send_22 : decode cL_send 22 = .ok (.ireturn, 1) := by decide +kernel
theorem dL_patrol_0 : decode cL_patrol 0 = .ok (.aload_n 3, 1) := by decide +kernel
theorem dL_patrol_1 : decode cL_patrol 1 = .ok (.iconst 0, 1) := by decide +kernel
theorem dL_patrol_2 : decode cL_patrol 2 = .ok (.aload_n 0, 1) := by decide +kernel
theorem dL_patrol_3 : decode cL_patrol 3 = .ok (.iload_n 1, 1) := by decide +kernel
theorem dL_patrol_4 : decode cL_patrol 4 = .ok (.iload_n 2, 1) := by decide +kernel
theorem dL_patrol_5 : decode cL_patrol 5 = .ok (.invokevirtual 74, 3) := by decide +kernel
theorem dL_patrol_8 : decode cL_patrol 8 = .ok (.i2l, 1) := by decide +kernel
theorem dL_patrol_9 : decode cL_patrol 9 = .ok (.lastore, 1) := by decide +kernel
theorem dL_patrol_10 : decode cL_patrol 10 = .ok (.goto 11, 3) := by decide +kernel
theorem dL_patrol_13 : decode cL_patrol 13 = .ok (.astore 4, 2) := by decide +kernel
theorem dL_patrol_15 : decode cL_patrol 15 = .ok (.iconst 1, 1) := by decide +kernel
theorem dL_patrol_16 : decode cL_patrol 16 = .ok (.ireturn, 1) := by decide +kernel
theorem dL_patrol_17 : decode cL_patrol 17 = .ok (.astore 4, 2) := by decide +kernel
theorem dL_patrol_19 : decode cL_patrol 19 = .ok (.iconst 2, 1) := by decide +kernel
theorem dL_patrol_20 : decode cL_patrol 20 = .ok (.ireturn, 1) := by decide +kernel
theorem dL_patrol_21 : decode cL_patrol 21 = .ok (.iconst 0, 1) := by decide +kernel
theorem dL_patrol_22 : decode cL_patrol 22 = .ok (.ireturn, 1) := by decide +kernel
theorem dL_works_0 : decode cL_works 0 = .ok (.aload 6, 2) := by decide +kernel
theorem dL_works_2 : decode cL_works 2 = .ok (.iconst 0, 1) := by decide +kernel
theorem dL_works_3 : decode cL_works 3 = .ok (.aload_n 0, 1) := by decide +kernel
theorem dL_works_4 : decode cL_works 4 = .ok (.iload_n 1, 1) := by decide +kernel
theorem dL_works_5 : decode cL_works 5 = .ok (.iload_n 2, 1) := by decide +kernel
theorem dL_works_6 : decode cL_works 6 = .ok (.iload_n 3, 1) := by decide +kernel
theorem dL_works_7 : decode cL_works 7 = .ok (.iload 4, 2) := by decide +kernel
theorem dL_works_9 : decode cL_works 9 = .ok (.iload 5, 2) := by decide +kernel
theorem dL_works_11 : decode cL_works 11 = .ok (.invokevirtual 77, 3) := by decide +kernel
theorem dL_works_14 : decode cL_works 14 = .ok (.i2l, 1) := by decide +kernel
theorem dL_works_15 : decode cL_works 15 = .ok (.lastore, 1) := by decide +kernel
theorem dL_works_16 : decode cL_works 16 = .ok (.goto 15, 3) := by decide +kernel
theorem dL_works_19 : decode cL_works 19 = .ok (.astore 7, 2) := by decide +kernel
theorem dL_works_21 : decode cL_works 21 = .ok (.iconst 1, 1) := by decide +kernel
theorem dL_works_22 : decode cL_works 22 = .ok (.ireturn, 1) := by decide +kernel
theorem dL_works_23 : decode cL_works 23 = .ok (.astore 7, 2) := by decide +kernel
theorem dL_works_25 : decode cL_works 25 = .ok (.iconst 2, 1) := by decide +kernel
theorem dL_works_26 : decode cL_works 26 = .ok (.ireturn, 1) := by decide +kernel
theorem dL_works_27 : decode cL_works 27 = .ok (.astore 7, 2) := by decide +kernel
theorem dL_works_29 : decode cL_works 29 = .ok (.iconst 3, 1) := by decide +kernel
theorem dL_works_30 : decode cL_works 30 = .ok (.ireturn, 1) := by decide +kernel
theorem dL_works_31 : decode cL_works 31 = .ok (.iconst 0, 1) := by decide +kernel
theorem dL_works_32 : decode cL_works 32 = .ok (.ireturn, 1) := by decide +kernel
theorem dL_isOn_0 : decode cL_isOn 0 = .ok (.aload_n 2, 1) := by decide +kernel
theorem dL_isOn_1 : decode cL_isOn 1 = .ok (.iconst 0, 1) := by decide +kernel
theorem dL_isOn_2 : decode cL_isOn 2 = .ok (.aload_n 0, 1) := by decide +kernel
theorem dL_isOn_3 : decode cL_isOn 3 = .ok (.iload_n 1, 1) := by decide +kernel
theorem dL_isOn_4 : decode cL_isOn 4 = .ok (.invokevirtual 81, 3) := by decide +kernel
theorem dL_isOn_7 : decode cL_isOn 7 = .ok (.ifCond .eq 7, 3) := by decide +kernel
theorem dL_isOn_10 : decode cL_isOn 10 = .ok (.lconst 1, 1) := by decide +kernel
theorem dL_isOn_11 : decode cL_isOn 11 = .ok (.goto 4, 3) := by decide +kernel
theorem dL_isOn_14 : decode cL_isOn 14 = .ok (.lconst 0, 1) := by decide +kernel
theorem dL_isOn_15 : decode cL_isOn 15 = .ok (.lastore, 1) := by decide +kernel
theorem dL_isOn_16 : decode cL_isOn 16 = .ok (.goto 6, 3) := by decide +kernel
theorem dL_isOn_19 : decode cL_isOn 19 = .ok (.astore_n 3, 1) := by decide +kernel
theorem dL_isOn_20 : decode cL_isOn 20 = .ok (.iconst 1, 1) := by decide +kernel
theorem dL_isOn_21 : decode cL_isOn 21 = .ok (.ireturn, 1) := by decide +kernel
theorem dL_isOn_22 : decode cL_isOn 22 = .ok (.iconst 0, 1) := by decide +kernel
theorem dL_isOn_23 : decode cL_isOn 23 = .ok (.ireturn, 1) := by decide +kernel
theorem dL_proof_0 : decode cL_proof 0 = .ok (.aload 4, 2) := by decide +kernel
theorem dL_proof_2 : decode cL_proof 2 = .ok (.iconst 0, 1) := by decide +kernel
theorem dL_proof_3 : decode cL_proof 3 = .ok (.aload_n 0, 1) := by decide +kernel
theorem dL_proof_4 : decode cL_proof 4 = .ok (.iload_n 1, 1) := by decide +kernel
theorem dL_proof_5 : decode cL_proof 5 = .ok (.iload_n 2, 1) := by decide +kernel
theorem dL_proof_6 : decode cL_proof 6 = .ok (.iload_n 3, 1) := by decide +kernel
theorem dL_proof_7 : decode cL_proof 7 = .ok (.invokevirtual 84, 3) := by decide +kernel
theorem dL_proof_10 : decode cL_proof 10 = .ok (.i2l, 1) := by decide +kernel
theorem dL_proof_11 : decode cL_proof 11 = .ok (.lastore, 1) := by decide +kernel
theorem dL_proof_12 : decode cL_proof 12 = .ok (.goto 15, 3) := by decide +kernel
theorem dL_proof_15 : decode cL_proof 15 = .ok (.astore 5, 2) := by decide +kernel
theorem dL_proof_17 : decode cL_proof 17 = .ok (.iconst 1, 1) := by decide +kernel
theorem dL_proof_18 : decode cL_proof 18 = .ok (.ireturn, 1) := by decide +kernel
theorem dL_proof_19 : decode cL_proof 19 = .ok (.astore 5, 2) := by decide +kernel
theorem dL_proof_21 : decode cL_proof 21 = .ok (.iconst 2, 1) := by decide +kernel
theorem dL_proof_22 : decode cL_proof 22 = .ok (.ireturn, 1) := by decide +kernel
theorem dL_proof_23 : decode cL_proof 23 = .ok (.astore 5, 2) := by decide +kernel
theorem dL_proof_25 : decode cL_proof 25 = .ok (.iconst 3, 1) := by decide +kernel
theorem dL_proof_26 : decode cL_proof 26 = .ok (.ireturn, 1) := by decide +kernel
theorem dL_proof_27 : decode cL_proof 27 = .ok (.iconst 0, 1) := by decide +kernel
theorem dL_proof_28 : decode cL_proof 28 = .ok (.ireturn, 1) := by decide +kernel
theorem dL_isFined_0 : decode cL_isFined 0 = .ok (.aload 4, 2) := by decide +kernel
theorem dL_isFined_2 : decode cL_isFined 2 = .ok (.iconst 0, 1) := by decide +kernel
theorem dL_isFined_3 : decode cL_isFined 3 = .ok (.aload_n 0, 1) := by decide +kernel
theorem dL_isFined_4 : decode cL_isFined 4 = .ok (.iload_n 1, 1) := by decide +kernel
theorem dL_isFined_5 : decode cL_isFined 5 = .ok (.iload_n 2, 1) := by decide +kernel
theorem dL_isFined_6 : decode cL_isFined 6 = .ok (.iload_n 3, 1) := by decide +kernel
theorem dL_isFined_7 : decode cL_isFined 7 = .ok (.invokevirtual 87, 3) := by decide +kernel
theorem dL_isFined_10 : decode cL_isFined 10 = .ok (.ifCond .eq 7, 3) := by decide +kernel
theorem dL_isFined_13 : decode cL_isFined 13 = .ok (.lconst 1, 1) := by decide +kernel
theorem dL_isFined_14 : decode cL_isFined 14 = .ok (.goto 4, 3) := by decide +kernel
theorem dL_isFined_17 : decode cL_isFined 17 = .ok (.lconst 0, 1) := by decide +kernel
theorem dL_isFined_18 : decode cL_isFined 18 = .ok (.lastore, 1) := by decide +kernel
theorem dL_isFined_19 : decode cL_isFined 19 = .ok (.goto 15, 3) := by decide +kernel
theorem dL_isFined_22 : decode cL_isFined 22 = .ok (.astore 5, 2) := by decide +kernel
theorem dL_isFined_24 : decode cL_isFined 24 = .ok (.iconst 1, 1) := by decide +kernel
theorem dL_isFined_25 : decode cL_isFined 25 = .ok (.ireturn, 1) := by decide +kernel
theorem dL_isFined_26 : decode cL_isFined 26 = .ok (.astore 5, 2) := by decide +kernel
theorem dL_isFined_28 : decode cL_isFined 28 = .ok (.iconst 2, 1) := by decide +kernel
theorem dL_isFined_29 : decode cL_isFined 29 = .ok (.ireturn, 1) := by decide +kernel
theorem dL_isFined_30 : decode cL_isFined 30 = .ok (.astore 5, 2) := by decide +kernel
theorem dL_isFined_32 : decode cL_isFined 32 = .ok (.iconst 3, 1) := by decide +kernel
theorem dL_isFined_33 : decode cL_isFined 33 = .ok (.ireturn, 1) := by decide +kernel
theorem dL_isFined_34 : decode cL_isFined 34 = .ok (.iconst 0, 1) := by decide +kernel
theorem dL_isFined_35 : decode cL_isFined 35 = .ok (.ireturn, 1) := by decide +kernel
theorem dL_law_0 : decode cL_law 0 = .ok (.new 8, 3) := by decide +kernel
theorem dL_law_3 : decode cL_law 3 = .ok (.dup, 1) := by decide +kernel
theorem dL_law_4 : decode cL_law 4 = .ok (.invokespecial 91, 3) := by decide +kernel
theorem dL_law_7 : decode cL_law 7 = .ok (.astore_n 1, 1) := by decide +kernel
theorem dL_law_8 : decode cL_law 8 = .ok (.new 92, 3) := by decide +kernel
theorem dL_law_11 : decode cL_law 11 = .ok (.dup, 1) := by decide +kernel
theorem dL_law_12 : decode cL_law 12 = .ok (.invokespecial 94, 3) := by decide +kernel
theorem dL_law_15 : decode cL_law 15 = .ok (.astore_n 2, 1) := by decide +kernel
theorem dL_law_16 : decode cL_law 16 = .ok (.iconst 1, 1) := by decide +kernel
theorem dL_law_17 : decode cL_law 17 = .ok (.newarray .long, 2) := by decide +kernel
theorem dL_law_19 : decode cL_law 19 = .ok (.astore_n 3, 1) := by decide +kernel
theorem dL_law_20 : decode cL_law 20 = .ok (.iconst 0, 1) := by decide +kernel
theorem dL_law_21 : decode cL_law 21 = .ok (.istore 4, 2) := by decide +kernel
theorem dL_law_23 : decode cL_law 23 = .ok (.iload 4, 2) := by decide +kernel
theorem dL_law_25 : decode cL_law 25 = .ok (.aload_n 0, 1) := by decide +kernel
theorem dL_law_26 : decode cL_law 26 = .ok (.arraylength, 1) := by decide +kernel
theorem dL_law_27 : decode cL_law 27 = .ok (.bipush 6, 2) := by decide +kernel
theorem dL_law_29 : decode cL_law 29 = .ok (.isub, 1) := by decide +kernel
theorem dL_law_30 : decode cL_law 30 = .ok (.if_icmp .gt 1740, 3) := by decide +kernel
theorem dL_law_33 : decode cL_law 33 = .ok (.aload_n 0, 1) := by decide +kernel
theorem dL_law_34 : decode cL_law 34 = .ok (.iload 4, 2) := by decide +kernel
theorem dL_law_36 : decode cL_law 36 = .ok (.iaload, 1) := by decide +kernel
theorem dL_law_37 : decode cL_law 37 = .ok (.bipush 31, 2) := by decide +kernel
theorem dL_law_39 : decode cL_law 39 = .ok (.iand, 1) := by decide +kernel
theorem dL_law_40 : decode cL_law 40 = .ok (.tableswitch 1724 0 25 #[120, 176, 232, 300, 356, 424, 504, 560, 628, 708, 776, 789, 852, 920, 933, 981, 1049, 1105, 1173, 1186, 1254, 1322, 1390, 1494, 1557, 1637], 120) := by decide +kernel
theorem dL_law_160 : decode cL_law 160 = .ok (.aload_n 1, 1) := by decide +kernel
theorem dL_law_161 : decode cL_law 161 = .ok (.aload_n 0, 1) := by decide +kernel
theorem dL_law_162 : decode cL_law 162 = .ok (.iload 4, 2) := by decide +kernel
theorem dL_law_164 : decode cL_law 164 = .ok (.iconst 1, 1) := by decide +kernel
theorem dL_law_165 : decode cL_law 165 = .ok (.iadd, 1) := by decide +kernel
theorem dL_law_166 : decode cL_law 166 = .ok (.iaload, 1) := by decide +kernel
theorem dL_law_167 : decode cL_law 167 = .ok (.aload_n 3, 1) := by decide +kernel
theorem dL_law_168 : decode cL_law 168 = .ok (.invokestatic 95, 3) := by decide +kernel
theorem dL_law_171 : decode cL_law 171 = .ok (.istore 5, 2) := by decide +kernel
theorem dL_law_173 : decode cL_law 173 = .ok (.aload_n 2, 1) := by decide +kernel
theorem dL_law_174 : decode cL_law 174 = .ok (.aload_n 0, 1) := by decide +kernel
theorem dL_law_175 : decode cL_law 175 = .ok (.iload 4, 2) := by decide +kernel
theorem dL_law_177 : decode cL_law 177 = .ok (.iconst 1, 1) := by decide +kernel
theorem dL_law_178 : decode cL_law 178 = .ok (.iadd, 1) := by decide +kernel
theorem dL_law_179 : decode cL_law 179 = .ok (.iaload, 1) := by decide +kernel
theorem dL_law_180 : decode cL_law 180 = .ok (.invokevirtual 100, 3) := by decide +kernel
theorem dL_law_183 : decode cL_law 183 = .ok (.istore 6, 2) := by decide +kernel
theorem dL_law_185 : decode cL_law 185 = .ok (.aload_n 2, 1) := by decide +kernel
theorem dL_law_186 : decode cL_law 186 = .ok (.invokevirtual 101, 3) := by decide +kernel
theorem dL_law_189 : decode cL_law 189 = .ok (.iload 5, 2) := by decide +kernel
theorem dL_law_191 : decode cL_law 191 = .ok (.if_icmp .eq 5, 3) := by decide +kernel
theorem dL_law_194 : decode cL_law 194 = .ok (.iconst 0, 1) := by decide +kernel
theorem dL_law_195 : decode cL_law 195 = .ok (.ireturn, 1) := by decide +kernel
theorem dL_law_196 : decode cL_law 196 = .ok (.iload 5, 2) := by decide +kernel
theorem dL_law_198 : decode cL_law 198 = .ok (.ifCond .ne 15, 3) := by decide +kernel
theorem dL_law_201 : decode cL_law 201 = .ok (.aload_n 3, 1) := by decide +kernel
theorem dL_law_202 : decode cL_law 202 = .ok (.iconst 0, 1) := by decide +kernel
theorem dL_law_203 : decode cL_law 203 = .ok (.laload, 1) := by decide +kernel
theorem dL_law_204 : decode cL_law 204 = .ok (.iload 6, 2) := by decide +kernel
theorem dL_law_206 : decode cL_law 206 = .ok (.i2l, 1) := by decide +kernel
theorem dL_law_207 : decode cL_law 207 = .ok (.lcmp, 1) := by decide +kernel
theorem dL_law_208 : decode cL_law 208 = .ok (.ifCond .eq 5, 3) := by decide +kernel
theorem dL_law_211 : decode cL_law 211 = .ok (.iconst 0, 1) := by decide +kernel
theorem dL_law_212 : decode cL_law 212 = .ok (.ireturn, 1) := by decide +kernel
theorem dL_law_213 : decode cL_law 213 = .ok (.goto 1551, 3) := by decide +kernel
theorem dL_law_216 : decode cL_law 216 = .ok (.aload_n 1, 1) := by decide +kernel
theorem dL_law_217 : decode cL_law 217 = .ok (.aload_n 0, 1) := by decide +kernel
theorem dL_law_218 : decode cL_law 218 = .ok (.iload 4, 2) := by decide +kernel
theorem dL_law_220 : decode cL_law 220 = .ok (.iconst 1, 1) := by decide +kernel
theorem dL_law_221 : decode cL_law 221 = .ok (.iadd, 1) := by decide +kernel
theorem dL_law_222 : decode cL_law 222 = .ok (.iaload, 1) := by decide +kernel
theorem dL_law_223 : decode cL_law 223 = .ok (.aload_n 3, 1) := by decide +kernel
theorem dL_law_224 : decode cL_law 224 = .ok (.invokestatic 105, 3) := by decide +kernel
theorem dL_law_227 : decode cL_law 227 = .ok (.istore 5, 2) := by decide +kernel
theorem dL_law_229 : decode cL_law 229 = .ok (.aload_n 2, 1) := by decide +kernel
theorem dL_law_230 : decode cL_law 230 = .ok (.aload_n 0, 1) := by decide +kernel
theorem dL_law_231 : decode cL_law 231 = .ok (.iload 4, 2) := by decide +kernel
theorem dL_law_233 : decode cL_law 233 = .ok (.iconst 1, 1) := by decide +kernel
theorem dL_law_234 : decode cL_law 234 = .ok (.iadd, 1) := by decide +kernel
theorem dL_law_235 : decode cL_law 235 = .ok (.iaload, 1) := by decide +kernel
theorem dL_law_236 : decode cL_law 236 = .ok (.invokevirtual 107, 3) := by decide +kernel
theorem dL_law_239 : decode cL_law 239 = .ok (.istore 6, 2) := by decide +kernel
theorem dL_law_241 : decode cL_law 241 = .ok (.aload_n 2, 1) := by decide +kernel
theorem dL_law_242 : decode cL_law 242 = .ok (.invokevirtual 101, 3) := by decide +kernel
theorem dL_law_245 : decode cL_law 245 = .ok (.iload 5, 2) := by decide +kernel
theorem dL_law_247 : decode cL_law 247 = .ok (.if_icmp .eq 5, 3) := by decide +kernel
theorem dL_law_250 : decode cL_law 250 = .ok (.iconst 0, 1) := by decide +kernel
theorem dL_law_251 : decode cL_law 251 = .ok (.ireturn, 1) := by decide +kernel
theorem dL_law_252 : decode cL_law 252 = .ok (.iload 5, 2) := by decide +kernel
theorem dL_law_254 : decode cL_law 254 = .ok (.ifCond .ne 15, 3) := by decide +kernel
theorem dL_law_257 : decode cL_law 257 = .ok (.aload_n 3, 1) := by decide +kernel
theorem dL_law_258 : decode cL_law 258 = .ok (.iconst 0, 1) := by decide +kernel
theorem dL_law_259 : decode cL_law 259 = .ok (.laload, 1) := by decide +kernel
theorem dL_law_260 : decode cL_law 260 = .ok (.iload 6, 2) := by decide +kernel
theorem dL_law_262 : decode cL_law 262 = .ok (.i2l, 1) := by decide +kernel
theorem dL_law_263 : decode cL_law 263 = .ok (.lcmp, 1) := by decide +kernel
theorem dL_law_264 : decode cL_law 264 = .ok (.ifCond .eq 5, 3) := by decide +kernel
theorem dL_law_267 : decode cL_law 267 = .ok (.iconst 0, 1) := by decide +kernel
theorem dL_law_268 : decode cL_law 268 = .ok (.ireturn, 1) := by decide +kernel
theorem dL_law_269 : decode cL_law 269 = .ok (.goto 1495, 3) := by decide +kernel
theorem dL_law_272 : decode cL_law 272 = .ok (.aload_n 1, 1) := by decide +kernel
theorem dL_law_273 : decode cL_law 273 = .ok (.aload_n 0, 1) := by decide +kernel
theorem dL_law_274 : decode cL_law 274 = .ok (.iload 4, 2) := by decide +kernel
theorem dL_law_276 : decode cL_law 276 = .ok (.iconst 1, 1) := by decide +kernel
theorem dL_law_277 : decode cL_law 277 = .ok (.iadd, 1) := by decide +kernel
theorem dL_law_278 : decode cL_law 278 = .ok (.iaload, 1) := by decide +kernel
theorem dL_law_279 : decode cL_law 279 = .ok (.aload_n 0, 1) := by decide +kernel
theorem dL_law_280 : decode cL_law 280 = .ok (.iload 4, 2) := by decide +kernel
theorem dL_law_282 : decode cL_law 282 = .ok (.iconst 2, 1) := by decide +kernel
theorem dL_law_283 : decode cL_law 283 = .ok (.iadd, 1) := by decide +kernel
theorem dL_law_284 : decode cL_law 284 = .ok (.iaload, 1) := by decide +kernel
theorem dL_law_285 : decode cL_law 285 = .ok (.aload_n 3, 1) := by decide +kernel
theorem dL_law_286 : decode cL_law 286 = .ok (.invokestatic 108, 3) := by decide +kernel
theorem dL_law_289 : decode cL_law 289 = .ok (.istore 5, 2) := by decide +kernel
theorem dL_law_291 : decode cL_law 291 = .ok (.aload_n 2, 1) := by decide +kernel
theorem dL_law_292 : decode cL_law 292 = .ok (.aload_n 0, 1) := by decide +kernel
theorem dL_law_293 : decode cL_law 293 = .ok (.iload 4, 2) := by decide +kernel
theorem dL_law_295 : decode cL_law 295 = .ok (.iconst 1, 1) := by decide +kernel
theorem dL_law_296 : decode cL_law 296 = .ok (.iadd, 1) := by decide +kernel
theorem dL_law_297 : decode cL_law 297 = .ok (.iaload, 1) := by decide +kernel
theorem dL_law_298 : decode cL_law 298 = .ok (.aload_n 0, 1) := by decide +kernel
theorem dL_law_299 : decode cL_law 299 = .ok (.iload 4, 2) := by decide +kernel
theorem dL_law_301 : decode cL_law 301 = .ok (.iconst 2, 1) := by decide +kernel
theorem dL_law_302 : decode cL_law 302 = .ok (.iadd, 1) := by decide +kernel
theorem dL_law_303 : decode cL_law 303 = .ok (.iaload, 1) := by decide +kernel
theorem dL_law_304 : decode cL_law 304 = .ok (.invokevirtual 111, 3) := by decide +kernel
theorem dL_law_307 : decode cL_law 307 = .ok (.istore 6, 2) := by decide +kernel
theorem dL_law_309 : decode cL_law 309 = .ok (.aload_n 2, 1) := by decide +kernel
theorem dL_law_310 : decode cL_law 310 = .ok (.invokevirtual 101, 3) := by decide +kernel
theorem dL_law_313 : decode cL_law 313 = .ok (.iload 5, 2) := by decide +kernel
theorem dL_law_315 : decode cL_law 315 = .ok (.if_icmp .eq 5, 3) := by decide +kernel
theorem dL_law_318 : decode cL_law 318 = .ok (.iconst 0, 1) := by decide +kernel
theorem dL_law_319 : decode cL_law 319 = .ok (.ireturn, 1) := by decide +kernel
theorem dL_law_320 : decode cL_law 320 = .ok (.iload 5, 2) := by decide +kernel
theorem dL_law_322 : decode cL_law 322 = .ok (.ifCond .ne 15, 3) := by decide +kernel
theorem dL_law_325 : decode cL_law 325 = .ok (.aload_n 3, 1) := by decide +kernel
theorem dL_law_326 : decode cL_law 326 = .ok (.iconst 0, 1) := by decide +kernel
theorem dL_law_327 : decode cL_law 327 = .ok (.laload, 1) := by decide +kernel
theorem dL_law_328 : decode cL_law 328 = .ok (.iload 6, 2) := by decide +kernel
theorem dL_law_330 : decode cL_law 330 = .ok (.i2l, 1) := by decide +kernel
theorem dL_law_331 : decode cL_law 331 = .ok (.lcmp, 1) := by decide +kernel
theorem dL_law_332 : decode cL_law 332 = .ok (.ifCond .eq 5, 3) := by decide +kernel
theorem dL_law_335 : decode cL_law 335 = .ok (.iconst 0, 1) := by decide +kernel
theorem dL_law_336 : decode cL_law 336 = .ok (.ireturn, 1) := by decide +kernel
theorem dL_law_337 : decode cL_law 337 = .ok (.goto 1427, 3) := by decide +kernel
theorem dL_law_340 : decode cL_law 340 = .ok (.aload_n 1, 1) := by decide +kernel
theorem dL_law_341 : decode cL_law 341 = .ok (.aload_n 0, 1) := by decide +kernel
theorem dL_law_342 : decode cL_law 342 = .ok (.iload 4, 2) := by decide +kernel
theorem dL_law_344 : decode cL_law 344 = .ok (.iconst 1, 1) := by decide +kernel
theorem dL_law_345 : decode cL_law 345 = .ok (.iadd, 1) := by decide +kernel
theorem dL_law_346 : decode cL_law 346 = .ok (.iaload, 1) := by decide +kernel
theorem dL_law_347 : decode cL_law 347 = .ok (.aload_n 3, 1) := by decide +kernel
theorem dL_law_348 : decode cL_law 348 = .ok (.invokestatic 112, 3) := by decide +kernel
theorem dL_law_351 : decode cL_law 351 = .ok (.istore 5, 2) := by decide +kernel
theorem dL_law_353 : decode cL_law 353 = .ok (.aload_n 2, 1) := by decide +kernel
theorem dL_law_354 : decode cL_law 354 = .ok (.aload_n 0, 1) := by decide +kernel
theorem dL_law_355 : decode cL_law 355 = .ok (.iload 4, 2) := by decide +kernel
theorem dL_law_357 : decode cL_law 357 = .ok (.iconst 1, 1) := by decide +kernel
theorem dL_law_358 : decode cL_law 358 = .ok (.iadd, 1) := by decide +kernel
theorem dL_law_359 : decode cL_law 359 = .ok (.iaload, 1) := by decide +kernel
theorem dL_law_360 : decode cL_law 360 = .ok (.invokevirtual 114, 3) := by decide +kernel
theorem dL_law_363 : decode cL_law 363 = .ok (.istore 6, 2) := by decide +kernel
theorem dL_law_365 : decode cL_law 365 = .ok (.aload_n 2, 1) := by decide +kernel
theorem dL_law_366 : decode cL_law 366 = .ok (.invokevirtual 101, 3) := by decide +kernel
theorem dL_law_369 : decode cL_law 369 = .ok (.iload 5, 2) := by decide +kernel
theorem dL_law_371 : decode cL_law 371 = .ok (.if_icmp .eq 5, 3) := by decide +kernel
theorem dL_law_374 : decode cL_law 374 = .ok (.iconst 0, 1) := by decide +kernel
theorem dL_law_375 : decode cL_law 375 = .ok (.ireturn, 1) := by decide +kernel
theorem dL_law_376 : decode cL_law 376 = .ok (.iload 5, 2) := by decide +kernel
theorem dL_law_378 : decode cL_law 378 = .ok (.ifCond .ne 15, 3) := by decide +kernel
theorem dL_law_381 : decode cL_law 381 = .ok (.aload_n 3, 1) := by decide +kernel
theorem dL_law_382 : decode cL_law 382 = .ok (.iconst 0, 1) := by decide +kernel
theorem dL_law_383 : decode cL_law 383 = .ok (.laload, 1) := by decide +kernel
theorem dL_law_384 : decode cL_law 384 = .ok (.iload 6, 2) := by decide +kernel
theorem dL_law_386 : decode cL_law 386 = .ok (.i2l, 1) := by decide +kernel
theorem dL_law_387 : decode cL_law 387 = .ok (.lcmp, 1) := by decide +kernel
theorem dL_law_388 : decode cL_law 388 = .ok (.ifCond .eq 5, 3) := by decide +kernel
theorem dL_law_391 : decode cL_law 391 = .ok (.iconst 0, 1) := by decide +kernel
theorem dL_law_392 : decode cL_law 392 = .ok (.ireturn, 1) := by decide +kernel
theorem dL_law_393 : decode cL_law 393 = .ok (.goto 1371, 3) := by decide +kernel
theorem dL_law_396 : decode cL_law 396 = .ok (.aload_n 1, 1) := by decide +kernel
theorem dL_law_397 : decode cL_law 397 = .ok (.aload_n 0, 1) := by decide +kernel
theorem dL_law_398 : decode cL_law 398 = .ok (.iload 4, 2) := by decide +kernel
theorem dL_law_400 : decode cL_law 400 = .ok (.iconst 1, 1) := by decide +kernel
theorem dL_law_401 : decode cL_law 401 = .ok (.iadd, 1) := by decide +kernel
theorem dL_law_402 : decode cL_law 402 = .ok (.iaload, 1) := by decide +kernel
theorem dL_law_403 : decode cL_law 403 = .ok (.aload_n 0, 1) := by decide +kernel
theorem dL_law_404 : decode cL_law 404 = .ok (.iload 4, 2) := by decide +kernel
theorem dL_law_406 : decode cL_law 406 = .ok (.iconst 2, 1) := by decide +kernel
theorem dL_law_407 : decode cL_law 407 = .ok (.iadd, 1) := by decide +kernel
theorem dL_law_408 : decode cL_law 408 = .ok (.iaload, 1) := by decide +kernel
theorem dL_law_409 : decode cL_law 409 = .ok (.aload_n 3, 1) := by decide +kernel
theorem dL_law_410 : decode cL_law 410 = .ok (.invokestatic 115, 3) := by decide +kernel
theorem dL_law_413 : decode cL_law 413 = .ok (.istore 5, 2) := by decide +kernel
theorem dL_law_415 : decode cL_law 415 = .ok (.aload_n 2, 1) := by decide +kernel
theorem dL_law_416 : decode cL_law 416 = .ok (.aload_n 0, 1) := by decide +kernel
theorem dL_law_417 : decode cL_law 417 = .ok (.iload 4, 2) := by decide +kernel
theorem dL_law_419 : decode cL_law 419 = .ok (.iconst 1, 1) := by decide +kernel
theorem dL_law_420 : decode cL_law 420 = .ok (.iadd, 1) := by decide +kernel
theorem dL_law_421 : decode cL_law 421 = .ok (.iaload, 1) := by decide +kernel
theorem dL_law_422 : decode cL_law 422 = .ok (.aload_n 0, 1) := by decide +kernel
theorem dL_law_423 : decode cL_law 423 = .ok (.iload 4, 2) := by decide +kernel
theorem dL_law_425 : decode cL_law 425 = .ok (.iconst 2, 1) := by decide +kernel
theorem dL_law_426 : decode cL_law 426 = .ok (.iadd, 1) := by decide +kernel
theorem dL_law_427 : decode cL_law 427 = .ok (.iaload, 1) := by decide +kernel
theorem dL_law_428 : decode cL_law 428 = .ok (.invokevirtual 117, 3) := by decide +kernel
theorem dL_law_431 : decode cL_law 431 = .ok (.istore 6, 2) := by decide +kernel
theorem dL_law_433 : decode cL_law 433 = .ok (.aload_n 2, 1) := by decide +kernel
theorem dL_law_434 : decode cL_law 434 = .ok (.invokevirtual 101, 3) := by decide +kernel
theorem dL_law_437 : decode cL_law 437 = .ok (.iload 5, 2) := by decide +kernel
theorem dL_law_439 : decode cL_law 439 = .ok (.if_icmp .eq 5, 3) := by decide +kernel
theorem dL_law_442 : decode cL_law 442 = .ok (.iconst 0, 1) := by decide +kernel
theorem dL_law_443 : decode cL_law 443 = .ok (.ireturn, 1) := by decide +kernel
theorem dL_law_444 : decode cL_law 444 = .ok (.iload 5, 2) := by decide +kernel
theorem dL_law_446 : decode cL_law 446 = .ok (.ifCond .ne 15, 3) := by decide +kernel
theorem dL_law_449 : decode cL_law 449 = .ok (.aload_n 3, 1) := by decide +kernel
theorem dL_law_450 : decode cL_law 450 = .ok (.iconst 0, 1) := by decide +kernel
theorem dL_law_451 : decode cL_law 451 = .ok (.laload, 1) := by decide +kernel
theorem dL_law_452 : decode cL_law 452 = .ok (.iload 6, 2) := by decide +kernel
theorem dL_law_454 : decode cL_law 454 = .ok (.i2l, 1) := by decide +kernel
theorem dL_law_455 : decode cL_law 455 = .ok (.lcmp, 1) := by decide +kernel
theorem dL_law_456 : decode cL_law 456 = .ok (.ifCond .eq 5, 3) := by decide +kernel
theorem dL_law_459 : decode cL_law 459 = .ok (.iconst 0, 1) := by decide +kernel
theorem dL_law_460 : decode cL_law 460 = .ok (.ireturn, 1) := by decide +kernel
theorem dL_law_461 : decode cL_law 461 = .ok (.goto 1303, 3) := by decide +kernel
theorem dL_law_464 : decode cL_law 464 = .ok (.aload_n 1, 1) := by decide +kernel
theorem dL_law_465 : decode cL_law 465 = .ok (.aload_n 0, 1) := by decide +kernel
theorem dL_law_466 : decode cL_law 466 = .ok (.iload 4, 2) := by decide +kernel
theorem dL_law_468 : decode cL_law 468 = .ok (.iconst 1, 1) := by decide +kernel
theorem dL_law_469 : decode cL_law 469 = .ok (.iadd, 1) := by decide +kernel
theorem dL_law_470 : decode cL_law 470 = .ok (.iaload, 1) := by decide +kernel
theorem dL_law_471 : decode cL_law 471 = .ok (.aload_n 0, 1) := by decide +kernel
theorem dL_law_472 : decode cL_law 472 = .ok (.iload 4, 2) := by decide +kernel
theorem dL_law_474 : decode cL_law 474 = .ok (.iconst 2, 1) := by decide +kernel
theorem dL_law_475 : decode cL_law 475 = .ok (.iadd, 1) := by decide +kernel
theorem dL_law_476 : decode cL_law 476 = .ok (.iaload, 1) := by decide +kernel
theorem dL_law_477 : decode cL_law 477 = .ok (.aload_n 0, 1) := by decide +kernel
theorem dL_law_478 : decode cL_law 478 = .ok (.iload 4, 2) := by decide +kernel
theorem dL_law_480 : decode cL_law 480 = .ok (.iconst 3, 1) := by decide +kernel
theorem dL_law_481 : decode cL_law 481 = .ok (.iadd, 1) := by decide +kernel
theorem dL_law_482 : decode cL_law 482 = .ok (.iaload, 1) := by decide +kernel
theorem dL_law_483 : decode cL_law 483 = .ok (.aload_n 3, 1) := by decide +kernel
theorem dL_law_484 : decode cL_law 484 = .ok (.invokestatic 118, 3) := by decide +kernel
theorem dL_law_487 : decode cL_law 487 = .ok (.istore 5, 2) := by decide +kernel
theorem dL_law_489 : decode cL_law 489 = .ok (.aload_n 2, 1) := by decide +kernel
theorem dL_law_490 : decode cL_law 490 = .ok (.aload_n 0, 1) := by decide +kernel
theorem dL_law_491 : decode cL_law 491 = .ok (.iload 4, 2) := by decide +kernel
theorem dL_law_493 : decode cL_law 493 = .ok (.iconst 1, 1) := by decide +kernel
theorem dL_law_494 : decode cL_law 494 = .ok (.iadd, 1) := by decide +kernel
theorem dL_law_495 : decode cL_law 495 = .ok (.iaload, 1) := by decide +kernel
theorem dL_law_496 : decode cL_law 496 = .ok (.aload_n 0, 1) := by decide +kernel
theorem dL_law_497 : decode cL_law 497 = .ok (.iload 4, 2) := by decide +kernel
theorem dL_law_499 : decode cL_law 499 = .ok (.iconst 2, 1) := by decide +kernel
theorem dL_law_500 : decode cL_law 500 = .ok (.iadd, 1) := by decide +kernel
theorem dL_law_501 : decode cL_law 501 = .ok (.iaload, 1) := by decide +kernel
theorem dL_law_502 : decode cL_law 502 = .ok (.aload_n 0, 1) := by decide +kernel
theorem dL_law_503 : decode cL_law 503 = .ok (.iload 4, 2) := by decide +kernel
theorem dL_law_505 : decode cL_law 505 = .ok (.iconst 3, 1) := by decide +kernel
theorem dL_law_506 : decode cL_law 506 = .ok (.iadd, 1) := by decide +kernel
theorem dL_law_507 : decode cL_law 507 = .ok (.iaload, 1) := by decide +kernel
theorem dL_law_508 : decode cL_law 508 = .ok (.invokevirtual 121, 3) := by decide +kernel
theorem dL_law_511 : decode cL_law 511 = .ok (.istore 6, 2) := by decide +kernel
theorem dL_law_513 : decode cL_law 513 = .ok (.aload_n 2, 1) := by decide +kernel
theorem dL_law_514 : decode cL_law 514 = .ok (.invokevirtual 101, 3) := by decide +kernel
theorem dL_law_517 : decode cL_law 517 = .ok (.iload 5, 2) := by decide +kernel
theorem dL_law_519 : decode cL_law 519 = .ok (.if_icmp .eq 5, 3) := by decide +kernel
theorem dL_law_522 : decode cL_law 522 = .ok (.iconst 0, 1) := by decide +kernel
theorem dL_law_523 : decode cL_law 523 = .ok (.ireturn, 1) := by decide +kernel
theorem dL_law_524 : decode cL_law 524 = .ok (.iload 5, 2) := by decide +kernel
theorem dL_law_526 : decode cL_law 526 = .ok (.ifCond .ne 15, 3) := by decide +kernel
theorem dL_law_529 : decode cL_law 529 = .ok (.aload_n 3, 1) := by decide +kernel
theorem dL_law_530 : decode cL_law 530 = .ok (.iconst 0, 1) := by decide +kernel
theorem dL_law_531 : decode cL_law 531 = .ok (.laload, 1) := by decide +kernel
theorem dL_law_532 : decode cL_law 532 = .ok (.iload 6, 2) := by decide +kernel
theorem dL_law_534 : decode cL_law 534 = .ok (.i2l, 1) := by decide +kernel
theorem dL_law_535 : decode cL_law 535 = .ok (.lcmp, 1) := by decide +kernel
theorem dL_law_536 : decode cL_law 536 = .ok (.ifCond .eq 5, 3) := by decide +kernel
theorem dL_law_539 : decode cL_law 539 = .ok (.iconst 0, 1) := by decide +kernel
theorem dL_law_540 : decode cL_law 540 = .ok (.ireturn, 1) := by decide +kernel
theorem dL_law_541 : decode cL_law 541 = .ok (.goto 1223, 3) := by decide +kernel
theorem dL_law_544 : decode cL_law 544 = .ok (.aload_n 1, 1) := by decide +kernel
theorem dL_law_545 : decode cL_law 545 = .ok (.aload_n 0, 1) := by decide +kernel
theorem dL_law_546 : decode cL_law 546 = .ok (.iload 4, 2) := by decide +kernel
theorem dL_law_548 : decode cL_law 548 = .ok (.iconst 1, 1) := by decide +kernel
theorem dL_law_549 : decode cL_law 549 = .ok (.iadd, 1) := by decide +kernel
theorem dL_law_550 : decode cL_law 550 = .ok (.iaload, 1) := by decide +kernel
theorem dL_law_551 : decode cL_law 551 = .ok (.aload_n 3, 1) := by decide +kernel
theorem dL_law_552 : decode cL_law 552 = .ok (.invokestatic 122, 3) := by decide +kernel
theorem dL_law_555 : decode cL_law 555 = .ok (.istore 5, 2) := by decide +kernel
theorem dL_law_557 : decode cL_law 557 = .ok (.aload_n 2, 1) := by decide +kernel
theorem dL_law_558 : decode cL_law 558 = .ok (.aload_n 0, 1) := by decide +kernel
theorem dL_law_559 : decode cL_law 559 = .ok (.iload 4, 2) := by decide +kernel
theorem dL_law_561 : decode cL_law 561 = .ok (.iconst 1, 1) := by decide +kernel
theorem dL_law_562 : decode cL_law 562 = .ok (.iadd, 1) := by decide +kernel
theorem dL_law_563 : decode cL_law 563 = .ok (.iaload, 1) := by decide +kernel
theorem dL_law_564 : decode cL_law 564 = .ok (.invokevirtual 124, 3) := by decide +kernel
theorem dL_law_567 : decode cL_law 567 = .ok (.istore 6, 2) := by decide +kernel
theorem dL_law_569 : decode cL_law 569 = .ok (.aload_n 2, 1) := by decide +kernel
theorem dL_law_570 : decode cL_law 570 = .ok (.invokevirtual 101, 3) := by decide +kernel
theorem dL_law_573 : decode cL_law 573 = .ok (.iload 5, 2) := by decide +kernel
theorem dL_law_575 : decode cL_law 575 = .ok (.if_icmp .eq 5, 3) := by decide +kernel
theorem dL_law_578 : decode cL_law 578 = .ok (.iconst 0, 1) := by decide +kernel
theorem dL_law_579 : decode cL_law 579 = .ok (.ireturn, 1) := by decide +kernel
theorem dL_law_580 : decode cL_law 580 = .ok (.iload 5, 2) := by decide +kernel
theorem dL_law_582 : decode cL_law 582 = .ok (.ifCond .ne 15, 3) := by decide +kernel
theorem dL_law_585 : decode cL_law 585 = .ok (.aload_n 3, 1) := by decide +kernel
theorem dL_law_586 : decode cL_law 586 = .ok (.iconst 0, 1) := by decide +kernel
theorem dL_law_587 : decode cL_law 587 = .ok (.laload, 1) := by decide +kernel
theorem dL_law_588 : decode cL_law 588 = .ok (.iload 6, 2) := by decide +kernel
theorem dL_law_590 : decode cL_law 590 = .ok (.i2l, 1) := by decide +kernel
theorem dL_law_591 : decode cL_law 591 = .ok (.lcmp, 1) := by decide +kernel
theorem dL_law_592 : decode cL_law 592 = .ok (.ifCond .eq 5, 3) := by decide +kernel
theorem dL_law_595 : decode cL_law 595 = .ok (.iconst 0, 1) := by decide +kernel
theorem dL_law_596 : decode cL_law 596 = .ok (.ireturn, 1) := by decide +kernel
theorem dL_law_597 : decode cL_law 597 = .ok (.goto 1167, 3) := by decide +kernel
theorem dL_law_600 : decode cL_law 600 = .ok (.aload_n 1, 1) := by decide +kernel
theorem dL_law_601 : decode cL_law 601 = .ok (.aload_n 0, 1) := by decide +kernel
theorem dL_law_602 : decode cL_law 602 = .ok (.iload 4, 2) := by decide +kernel
theorem dL_law_604 : decode cL_law 604 = .ok (.iconst 1, 1) := by decide +kernel
theorem dL_law_605 : decode cL_law 605 = .ok (.iadd, 1) := by decide +kernel
theorem dL_law_606 : decode cL_law 606 = .ok (.iaload, 1) := by decide +kernel
theorem dL_law_607 : decode cL_law 607 = .ok (.aload_n 0, 1) := by decide +kernel
theorem dL_law_608 : decode cL_law 608 = .ok (.iload 4, 2) := by decide +kernel
theorem dL_law_610 : decode cL_law 610 = .ok (.iconst 2, 1) := by decide +kernel
theorem dL_law_611 : decode cL_law 611 = .ok (.iadd, 1) := by decide +kernel
theorem dL_law_612 : decode cL_law 612 = .ok (.iaload, 1) := by decide +kernel
theorem dL_law_613 : decode cL_law 613 = .ok (.aload_n 3, 1) := by decide +kernel
theorem dL_law_614 : decode cL_law 614 = .ok (.invokestatic 125, 3) := by decide +kernel
theorem dL_law_617 : decode cL_law 617 = .ok (.istore 5, 2) := by decide +kernel
theorem dL_law_619 : decode cL_law 619 = .ok (.aload_n 2, 1) := by decide +kernel
theorem dL_law_620 : decode cL_law 620 = .ok (.aload_n 0, 1) := by decide +kernel
theorem dL_law_621 : decode cL_law 621 = .ok (.iload 4, 2) := by decide +kernel
theorem dL_law_623 : decode cL_law 623 = .ok (.iconst 1, 1) := by decide +kernel
theorem dL_law_624 : decode cL_law 624 = .ok (.iadd, 1) := by decide +kernel
theorem dL_law_625 : decode cL_law 625 = .ok (.iaload, 1) := by decide +kernel
theorem dL_law_626 : decode cL_law 626 = .ok (.aload_n 0, 1) := by decide +kernel
theorem dL_law_627 : decode cL_law 627 = .ok (.iload 4, 2) := by decide +kernel
theorem dL_law_629 : decode cL_law 629 = .ok (.iconst 2, 1) := by decide +kernel
theorem dL_law_630 : decode cL_law 630 = .ok (.iadd, 1) := by decide +kernel
theorem dL_law_631 : decode cL_law 631 = .ok (.iaload, 1) := by decide +kernel
theorem dL_law_632 : decode cL_law 632 = .ok (.invokevirtual 127, 3) := by decide +kernel
theorem dL_law_635 : decode cL_law 635 = .ok (.istore 6, 2) := by decide +kernel
theorem dL_law_637 : decode cL_law 637 = .ok (.aload_n 2, 1) := by decide +kernel
theorem dL_law_638 : decode cL_law 638 = .ok (.invokevirtual 101, 3) := by decide +kernel
theorem dL_law_641 : decode cL_law 641 = .ok (.iload 5, 2) := by decide +kernel
theorem dL_law_643 : decode cL_law 643 = .ok (.if_icmp .eq 5, 3) := by decide +kernel
theorem dL_law_646 : decode cL_law 646 = .ok (.iconst 0, 1) := by decide +kernel
theorem dL_law_647 : decode cL_law 647 = .ok (.ireturn, 1) := by decide +kernel
theorem dL_law_648 : decode cL_law 648 = .ok (.iload 5, 2) := by decide +kernel
theorem dL_law_650 : decode cL_law 650 = .ok (.ifCond .ne 15, 3) := by decide +kernel
theorem dL_law_653 : decode cL_law 653 = .ok (.aload_n 3, 1) := by decide +kernel
theorem dL_law_654 : decode cL_law 654 = .ok (.iconst 0, 1) := by decide +kernel
theorem dL_law_655 : decode cL_law 655 = .ok (.laload, 1) := by decide +kernel
theorem dL_law_656 : decode cL_law 656 = .ok (.iload 6, 2) := by decide +kernel
theorem dL_law_658 : decode cL_law 658 = .ok (.i2l, 1) := by decide +kernel
theorem dL_law_659 : decode cL_law 659 = .ok (.lcmp, 1) := by decide +kernel
theorem dL_law_660 : decode cL_law 660 = .ok (.ifCond .eq 5, 3) := by decide +kernel
theorem dL_law_663 : decode cL_law 663 = .ok (.iconst 0, 1) := by decide +kernel
theorem dL_law_664 : decode cL_law 664 = .ok (.ireturn, 1) := by decide +kernel
theorem dL_law_665 : decode cL_law 665 = .ok (.goto 1099, 3) := by decide +kernel
theorem dL_law_668 : decode cL_law 668 = .ok (.aload_n 1, 1) := by decide +kernel
theorem dL_law_669 : decode cL_law 669 = .ok (.aload_n 0, 1) := by decide +kernel
theorem dL_law_670 : decode cL_law 670 = .ok (.iload 4, 2) := by decide +kernel
theorem dL_law_672 : decode cL_law 672 = .ok (.iconst 1, 1) := by decide +kernel
theorem dL_law_673 : decode cL_law 673 = .ok (.iadd, 1) := by decide +kernel
theorem dL_law_674 : decode cL_law 674 = .ok (.iaload, 1) := by decide +kernel
theorem dL_law_675 : decode cL_law 675 = .ok (.aload_n 0, 1) := by decide +kernel
theorem dL_law_676 : decode cL_law 676 = .ok (.iload 4, 2) := by decide +kernel
theorem dL_law_678 : decode cL_law 678 = .ok (.iconst 2, 1) := by decide +kernel
theorem dL_law_679 : decode cL_law 679 = .ok (.iadd, 1) := by decide +kernel
theorem dL_law_680 : decode cL_law 680 = .ok (.iaload, 1) := by decide +kernel
theorem dL_law_681 : decode cL_law 681 = .ok (.aload_n 0, 1) := by decide +kernel
theorem dL_law_682 : decode cL_law 682 = .ok (.iload 4, 2) := by decide +kernel
theorem dL_law_684 : decode cL_law 684 = .ok (.iconst 3, 1) := by decide +kernel
theorem dL_law_685 : decode cL_law 685 = .ok (.iadd, 1) := by decide +kernel
theorem dL_law_686 : decode cL_law 686 = .ok (.iaload, 1) := by decide +kernel
theorem dL_law_687 : decode cL_law 687 = .ok (.aload_n 3, 1) := by decide +kernel
theorem dL_law_688 : decode cL_law 688 = .ok (.invokestatic 128, 3) := by decide +kernel
theorem dL_law_691 : decode cL_law 691 = .ok (.istore 5, 2) := by decide +kernel
theorem dL_law_693 : decode cL_law 693 = .ok (.aload_n 2, 1) := by decide +kernel
theorem dL_law_694 : decode cL_law 694 = .ok (.aload_n 0, 1) := by decide +kernel
theorem dL_law_695 : decode cL_law 695 = .ok (.iload 4, 2) := by decide +kernel
theorem dL_law_697 : decode cL_law 697 = .ok (.iconst 1, 1) := by decide +kernel
theorem dL_law_698 : decode cL_law 698 = .ok (.iadd, 1) := by decide +kernel
theorem dL_law_699 : decode cL_law 699 = .ok (.iaload, 1) := by decide +kernel
theorem dL_law_700 : decode cL_law 700 = .ok (.aload_n 0, 1) := by decide +kernel
theorem dL_law_701 : decode cL_law 701 = .ok (.iload 4, 2) := by decide +kernel
theorem dL_law_703 : decode cL_law 703 = .ok (.iconst 2, 1) := by decide +kernel
theorem dL_law_704 : decode cL_law 704 = .ok (.iadd, 1) := by decide +kernel
theorem dL_law_705 : decode cL_law 705 = .ok (.iaload, 1) := by decide +kernel
theorem dL_law_706 : decode cL_law 706 = .ok (.aload_n 0, 1) := by decide +kernel
theorem dL_law_707 : decode cL_law 707 = .ok (.iload 4, 2) := by decide +kernel
theorem dL_law_709 : decode cL_law 709 = .ok (.iconst 3, 1) := by decide +kernel
theorem dL_law_710 : decode cL_law 710 = .ok (.iadd, 1) := by decide +kernel
theorem dL_law_711 : decode cL_law 711 = .ok (.iaload, 1) := by decide +kernel
theorem dL_law_712 : decode cL_law 712 = .ok (.invokevirtual 130, 3) := by decide +kernel
theorem dL_law_715 : decode cL_law 715 = .ok (.istore 6, 2) := by decide +kernel
theorem dL_law_717 : decode cL_law 717 = .ok (.aload_n 2, 1) := by decide +kernel
theorem dL_law_718 : decode cL_law 718 = .ok (.invokevirtual 101, 3) := by decide +kernel
theorem dL_law_721 : decode cL_law 721 = .ok (.iload 5, 2) := by decide +kernel
theorem dL_law_723 : decode cL_law 723 = .ok (.if_icmp .eq 5, 3) := by decide +kernel
theorem dL_law_726 : decode cL_law 726 = .ok (.iconst 0, 1) := by decide +kernel
theorem dL_law_727 : decode cL_law 727 = .ok (.ireturn, 1) := by decide +kernel
theorem dL_law_728 : decode cL_law 728 = .ok (.iload 5, 2) := by decide +kernel
theorem dL_law_730 : decode cL_law 730 = .ok (.ifCond .ne 15, 3) := by decide +kernel
theorem dL_law_733 : decode cL_law 733 = .ok (.aload_n 3, 1) := by decide +kernel
theorem dL_law_734 : decode cL_law 734 = .ok (.iconst 0, 1) := by decide +kernel
theorem dL_law_735 : decode cL_law 735 = .ok (.laload, 1) := by decide +kernel
theorem dL_law_736 : decode cL_law 736 = .ok (.iload 6, 2) := by decide +kernel
theorem dL_law_738 : decode cL_law 738 = .ok (.i2l, 1) := by decide +kernel
theorem dL_law_739 : decode cL_law 739 = .ok (.lcmp, 1) := by decide +kernel
theorem dL_law_740 : decode cL_law 740 = .ok (.ifCond .eq 5, 3) := by decide +kernel
theorem dL_law_743 : decode cL_law 743 = .ok (.iconst 0, 1) := by decide +kernel
theorem dL_law_744 : decode cL_law 744 = .ok (.ireturn, 1) := by decide +kernel
theorem dL_law_745 : decode cL_law 745 = .ok (.goto 1019, 3) := by decide +kernel
theorem dL_law_748 : decode cL_law 748 = .ok (.aload_n 1, 1) := by decide +kernel
theorem dL_law_749 : decode cL_law 749 = .ok (.aload_n 0, 1) := by decide +kernel
theorem dL_law_750 : decode cL_law 750 = .ok (.iload 4, 2) := by decide +kernel
theorem dL_law_752 : decode cL_law 752 = .ok (.iconst 1, 1) := by decide +kernel
theorem dL_law_753 : decode cL_law 753 = .ok (.iadd, 1) := by decide +kernel
theorem dL_law_754 : decode cL_law 754 = .ok (.iaload, 1) := by decide +kernel
theorem dL_law_755 : decode cL_law 755 = .ok (.aload_n 0, 1) := by decide +kernel
theorem dL_law_756 : decode cL_law 756 = .ok (.iload 4, 2) := by decide +kernel
theorem dL_law_758 : decode cL_law 758 = .ok (.iconst 2, 1) := by decide +kernel
theorem dL_law_759 : decode cL_law 759 = .ok (.iadd, 1) := by decide +kernel
theorem dL_law_760 : decode cL_law 760 = .ok (.iaload, 1) := by decide +kernel
theorem dL_law_761 : decode cL_law 761 = .ok (.aload_n 3, 1) := by decide +kernel
theorem dL_law_762 : decode cL_law 762 = .ok (.invokestatic 131, 3) := by decide +kernel
theorem dL_law_765 : decode cL_law 765 = .ok (.istore 5, 2) := by decide +kernel
theorem dL_law_767 : decode cL_law 767 = .ok (.aload_n 2, 1) := by decide +kernel
theorem dL_law_768 : decode cL_law 768 = .ok (.aload_n 0, 1) := by decide +kernel
theorem dL_law_769 : decode cL_law 769 = .ok (.iload 4, 2) := by decide +kernel
theorem dL_law_771 : decode cL_law 771 = .ok (.iconst 1, 1) := by decide +kernel
theorem dL_law_772 : decode cL_law 772 = .ok (.iadd, 1) := by decide +kernel
theorem dL_law_773 : decode cL_law 773 = .ok (.iaload, 1) := by decide +kernel
theorem dL_law_774 : decode cL_law 774 = .ok (.aload_n 0, 1) := by decide +kernel
theorem dL_law_775 : decode cL_law 775 = .ok (.iload 4, 2) := by decide +kernel
theorem dL_law_777 : decode cL_law 777 = .ok (.iconst 2, 1) := by decide +kernel
theorem dL_law_778 : decode cL_law 778 = .ok (.iadd, 1) := by decide +kernel
theorem dL_law_779 : decode cL_law 779 = .ok (.iaload, 1) := by decide +kernel
theorem dL_law_780 : decode cL_law 780 = .ok (.invokevirtual 133, 3) := by decide +kernel
theorem dL_law_783 : decode cL_law 783 = .ok (.istore 6, 2) := by decide +kernel
theorem dL_law_785 : decode cL_law 785 = .ok (.aload_n 2, 1) := by decide +kernel
theorem dL_law_786 : decode cL_law 786 = .ok (.invokevirtual 101, 3) := by decide +kernel
theorem dL_law_789 : decode cL_law 789 = .ok (.iload 5, 2) := by decide +kernel
theorem dL_law_791 : decode cL_law 791 = .ok (.if_icmp .eq 5, 3) := by decide +kernel
theorem dL_law_794 : decode cL_law 794 = .ok (.iconst 0, 1) := by decide +kernel
theorem dL_law_795 : decode cL_law 795 = .ok (.ireturn, 1) := by decide +kernel
theorem dL_law_796 : decode cL_law 796 = .ok (.iload 5, 2) := by decide +kernel
theorem dL_law_798 : decode cL_law 798 = .ok (.ifCond .ne 15, 3) := by decide +kernel
theorem dL_law_801 : decode cL_law 801 = .ok (.aload_n 3, 1) := by decide +kernel
theorem dL_law_802 : decode cL_law 802 = .ok (.iconst 0, 1) := by decide +kernel
theorem dL_law_803 : decode cL_law 803 = .ok (.laload, 1) := by decide +kernel
theorem dL_law_804 : decode cL_law 804 = .ok (.iload 6, 2) := by decide +kernel
theorem dL_law_806 : decode cL_law 806 = .ok (.i2l, 1) := by decide +kernel
theorem dL_law_807 : decode cL_law 807 = .ok (.lcmp, 1) := by decide +kernel
theorem dL_law_808 : decode cL_law 808 = .ok (.ifCond .eq 5, 3) := by decide +kernel
theorem dL_law_811 : decode cL_law 811 = .ok (.iconst 0, 1) := by decide +kernel
theorem dL_law_812 : decode cL_law 812 = .ok (.ireturn, 1) := by decide +kernel
theorem dL_law_813 : decode cL_law 813 = .ok (.goto 951, 3) := by decide +kernel
theorem dL_law_816 : decode cL_law 816 = .ok (.aload_n 1, 1) := by decide +kernel
theorem dL_law_817 : decode cL_law 817 = .ok (.invokevirtual 134, 3) := by decide +kernel
theorem dL_law_820 : decode cL_law 820 = .ok (.aload_n 2, 1) := by decide +kernel
theorem dL_law_821 : decode cL_law 821 = .ok (.invokevirtual 138, 3) := by decide +kernel
theorem dL_law_824 : decode cL_law 824 = .ok (.if_icmp .eq 940, 3) := by decide +kernel
theorem dL_law_827 : decode cL_law 827 = .ok (.iconst 0, 1) := by decide +kernel
theorem dL_law_828 : decode cL_law 828 = .ok (.ireturn, 1) := by decide +kernel
theorem dL_law_829 : decode cL_law 829 = .ok (.aload_n 1, 1) := by decide +kernel
theorem dL_law_830 : decode cL_law 830 = .ok (.aload_n 0, 1) := by decide +kernel
theorem dL_law_831 : decode cL_law 831 = .ok (.iload 4, 2) := by decide +kernel
theorem dL_law_833 : decode cL_law 833 = .ok (.iconst 1, 1) := by decide +kernel
theorem dL_law_834 : decode cL_law 834 = .ok (.iadd, 1) := by decide +kernel
theorem dL_law_835 : decode cL_law 835 = .ok (.iaload, 1) := by decide +kernel
theorem dL_law_836 : decode cL_law 836 = .ok (.aload_n 3, 1) := by decide +kernel
theorem dL_law_837 : decode cL_law 837 = .ok (.invokestatic 139, 3) := by decide +kernel
theorem dL_law_840 : decode cL_law 840 = .ok (.istore 5, 2) := by decide +kernel
theorem dL_law_842 : decode cL_law 842 = .ok (.aload_n 2, 1) := by decide +kernel
theorem dL_law_843 : decode cL_law 843 = .ok (.aload_n 0, 1) := by decide +kernel
theorem dL_law_844 : decode cL_law 844 = .ok (.iload 4, 2) := by decide +kernel
theorem dL_law_846 : decode cL_law 846 = .ok (.iconst 1, 1) := by decide +kernel
theorem dL_law_847 : decode cL_law 847 = .ok (.iadd, 1) := by decide +kernel
theorem dL_law_848 : decode cL_law 848 = .ok (.iaload, 1) := by decide +kernel
theorem dL_law_849 : decode cL_law 849 = .ok (.invokevirtual 141, 3) := by decide +kernel
theorem dL_law_852 : decode cL_law 852 = .ok (.istore 6, 2) := by decide +kernel
theorem dL_law_854 : decode cL_law 854 = .ok (.aload_n 2, 1) := by decide +kernel
theorem dL_law_855 : decode cL_law 855 = .ok (.invokevirtual 101, 3) := by decide +kernel
theorem dL_law_858 : decode cL_law 858 = .ok (.iload 5, 2) := by decide +kernel
theorem dL_law_860 : decode cL_law 860 = .ok (.if_icmp .eq 5, 3) := by decide +kernel
theorem dL_law_863 : decode cL_law 863 = .ok (.iconst 0, 1) := by decide +kernel
theorem dL_law_864 : decode cL_law 864 = .ok (.ireturn, 1) := by decide +kernel
theorem dL_law_865 : decode cL_law 865 = .ok (.iload 5, 2) := by decide +kernel
theorem dL_law_867 : decode cL_law 867 = .ok (.ifCond .ne 22, 3) := by decide +kernel
theorem dL_law_870 : decode cL_law 870 = .ok (.aload_n 3, 1) := by decide +kernel
theorem dL_law_871 : decode cL_law 871 = .ok (.iconst 0, 1) := by decide +kernel
theorem dL_law_872 : decode cL_law 872 = .ok (.laload, 1) := by decide +kernel
theorem dL_law_873 : decode cL_law 873 = .ok (.iload 6, 2) := by decide +kernel
theorem dL_law_875 : decode cL_law 875 = .ok (.ifCond .eq 7, 3) := by decide +kernel
theorem dL_law_878 : decode cL_law 878 = .ok (.lconst 1, 1) := by decide +kernel
theorem dL_law_879 : decode cL_law 879 = .ok (.goto 4, 3) := by decide +kernel
theorem dL_law_882 : decode cL_law 882 = .ok (.lconst 0, 1) := by decide +kernel
theorem dL_law_883 : decode cL_law 883 = .ok (.lcmp, 1) := by decide +kernel
theorem dL_law_884 : decode cL_law 884 = .ok (.ifCond .eq 5, 3) := by decide +kernel
theorem dL_law_887 : decode cL_law 887 = .ok (.iconst 0, 1) := by decide +kernel
theorem dL_law_888 : decode cL_law 888 = .ok (.ireturn, 1) := by decide +kernel
theorem dL_law_889 : decode cL_law 889 = .ok (.goto 875, 3) := by decide +kernel
theorem dL_law_892 : decode cL_law 892 = .ok (.aload_n 1, 1) := by decide +kernel
theorem dL_law_893 : decode cL_law 893 = .ok (.aload_n 0, 1) := by decide +kernel
theorem dL_law_894 : decode cL_law 894 = .ok (.iload 4, 2) := by decide +kernel
theorem dL_law_896 : decode cL_law 896 = .ok (.iconst 1, 1) := by decide +kernel
theorem dL_law_897 : decode cL_law 897 = .ok (.iadd, 1) := by decide +kernel
theorem dL_law_898 : decode cL_law 898 = .ok (.iaload, 1) := by decide +kernel
theorem dL_law_899 : decode cL_law 899 = .ok (.aload_n 0, 1) := by decide +kernel
theorem dL_law_900 : decode cL_law 900 = .ok (.iload 4, 2) := by decide +kernel
theorem dL_law_902 : decode cL_law 902 = .ok (.iconst 2, 1) := by decide +kernel
theorem dL_law_903 : decode cL_law 903 = .ok (.iadd, 1) := by decide +kernel
theorem dL_law_904 : decode cL_law 904 = .ok (.iaload, 1) := by decide +kernel
theorem dL_law_905 : decode cL_law 905 = .ok (.aload_n 3, 1) := by decide +kernel
theorem dL_law_906 : decode cL_law 906 = .ok (.invokestatic 142, 3) := by decide +kernel
theorem dL_law_909 : decode cL_law 909 = .ok (.istore 5, 2) := by decide +kernel
theorem dL_law_911 : decode cL_law 911 = .ok (.aload_n 2, 1) := by decide +kernel
theorem dL_law_912 : decode cL_law 912 = .ok (.aload_n 0, 1) := by decide +kernel
theorem dL_law_913 : decode cL_law 913 = .ok (.iload 4, 2) := by decide +kernel
theorem dL_law_915 : decode cL_law 915 = .ok (.iconst 1, 1) := by decide +kernel
theorem dL_law_916 : decode cL_law 916 = .ok (.iadd, 1) := by decide +kernel
theorem dL_law_917 : decode cL_law 917 = .ok (.iaload, 1) := by decide +kernel
theorem dL_law_918 : decode cL_law 918 = .ok (.aload_n 0, 1) := by decide +kernel
theorem dL_law_919 : decode cL_law 919 = .ok (.iload 4, 2) := by decide +kernel
theorem dL_law_921 : decode cL_law 921 = .ok (.iconst 2, 1) := by decide +kernel
theorem dL_law_922 : decode cL_law 922 = .ok (.iadd, 1) := by decide +kernel
theorem dL_law_923 : decode cL_law 923 = .ok (.iaload, 1) := by decide +kernel
theorem dL_law_924 : decode cL_law 924 = .ok (.invokevirtual 144, 3) := by decide +kernel
theorem dL_law_927 : decode cL_law 927 = .ok (.istore 6, 2) := by decide +kernel
theorem dL_law_929 : decode cL_law 929 = .ok (.aload_n 2, 1) := by decide +kernel
theorem dL_law_930 : decode cL_law 930 = .ok (.invokevirtual 101, 3) := by decide +kernel
theorem dL_law_933 : decode cL_law 933 = .ok (.iload 5, 2) := by decide +kernel
theorem dL_law_935 : decode cL_law 935 = .ok (.if_icmp .eq 5, 3) := by decide +kernel
theorem dL_law_938 : decode cL_law 938 = .ok (.iconst 0, 1) := by decide +kernel
theorem dL_law_939 : decode cL_law 939 = .ok (.ireturn, 1) := by decide +kernel
theorem dL_law_940 : decode cL_law 940 = .ok (.iload 5, 2) := by decide +kernel
theorem dL_law_942 : decode cL_law 942 = .ok (.ifCond .ne 15, 3) := by decide +kernel
theorem dL_law_945 : decode cL_law 945 = .ok (.aload_n 3, 1) := by decide +kernel
theorem dL_law_946 : decode cL_law 946 = .ok (.iconst 0, 1) := by decide +kernel
theorem dL_law_947 : decode cL_law 947 = .ok (.laload, 1) := by decide +kernel
theorem dL_law_948 : decode cL_law 948 = .ok (.iload 6, 2) := by decide +kernel
theorem dL_law_950 : decode cL_law 950 = .ok (.i2l, 1) := by decide +kernel
theorem dL_law_951 : decode cL_law 951 = .ok (.lcmp, 1) := by decide +kernel
theorem dL_law_952 : decode cL_law 952 = .ok (.ifCond .eq 5, 3) := by decide +kernel
theorem dL_law_955 : decode cL_law 955 = .ok (.iconst 0, 1) := by decide +kernel
theorem dL_law_956 : decode cL_law 956 = .ok (.ireturn, 1) := by decide +kernel
theorem dL_law_957 : decode cL_law 957 = .ok (.goto 807, 3) := by decide +kernel
theorem dL_law_960 : decode cL_law 960 = .ok (.aload_n 1, 1) := by decide +kernel
theorem dL_law_961 : decode cL_law 961 = .ok (.invokevirtual 145, 3) := by decide +kernel
theorem dL_law_964 : decode cL_law 964 = .ok (.aload_n 2, 1) := by decide +kernel
theorem dL_law_965 : decode cL_law 965 = .ok (.invokevirtual 148, 3) := by decide +kernel
theorem dL_law_968 : decode cL_law 968 = .ok (.if_icmp .eq 796, 3) := by decide +kernel
theorem dL_law_971 : decode cL_law 971 = .ok (.iconst 0, 1) := by decide +kernel
theorem dL_law_972 : decode cL_law 972 = .ok (.ireturn, 1) := by decide +kernel
theorem dL_law_973 : decode cL_law 973 = .ok (.aload_n 1, 1) := by decide +kernel
theorem dL_law_974 : decode cL_law 974 = .ok (.aload_n 0, 1) := by decide +kernel
theorem dL_law_975 : decode cL_law 975 = .ok (.iload 4, 2) := by decide +kernel
theorem dL_law_977 : decode cL_law 977 = .ok (.iconst 1, 1) := by decide +kernel
theorem dL_law_978 : decode cL_law 978 = .ok (.iadd, 1) := by decide +kernel
theorem dL_law_979 : decode cL_law 979 = .ok (.iaload, 1) := by decide +kernel
theorem dL_law_980 : decode cL_law 980 = .ok (.aload_n 0, 1) := by decide +kernel
theorem dL_law_981 : decode cL_law 981 = .ok (.iload 4, 2) := by decide +kernel
theorem dL_law_983 : decode cL_law 983 = .ok (.iconst 2, 1) := by decide +kernel
theorem dL_law_984 : decode cL_law 984 = .ok (.iadd, 1) := by decide +kernel
theorem dL_law_985 : decode cL_law 985 = .ok (.iaload, 1) := by decide +kernel
theorem dL_law_986 : decode cL_law 986 = .ok (.invokestatic 149, 3) := by decide +kernel
theorem dL_law_989 : decode cL_law 989 = .ok (.istore 5, 2) := by decide +kernel
theorem dL_law_991 : decode cL_law 991 = .ok (.aload_n 2, 1) := by decide +kernel
theorem dL_law_992 : decode cL_law 992 = .ok (.aload_n 0, 1) := by decide +kernel
theorem dL_law_993 : decode cL_law 993 = .ok (.iload 4, 2) := by decide +kernel
theorem dL_law_995 : decode cL_law 995 = .ok (.iconst 1, 1) := by decide +kernel
theorem dL_law_996 : decode cL_law 996 = .ok (.iadd, 1) := by decide +kernel
theorem dL_law_997 : decode cL_law 997 = .ok (.iaload, 1) := by decide +kernel
theorem dL_law_998 : decode cL_law 998 = .ok (.aload_n 0, 1) := by decide +kernel
theorem dL_law_999 : decode cL_law 999 = .ok (.iload 4, 2) := by decide +kernel
theorem dL_law_1001 : decode cL_law 1001 = .ok (.iconst 2, 1) := by decide +kernel
theorem dL_law_1002 : decode cL_law 1002 = .ok (.iadd, 1) := by decide +kernel
theorem dL_law_1003 : decode cL_law 1003 = .ok (.iaload, 1) := by decide +kernel
theorem dL_law_1004 : decode cL_law 1004 = .ok (.invokevirtual 152, 3) := by decide +kernel
theorem dL_law_1007 : decode cL_law 1007 = .ok (.aload_n 2, 1) := by decide +kernel
theorem dL_law_1008 : decode cL_law 1008 = .ok (.invokevirtual 101, 3) := by decide +kernel
theorem dL_law_1011 : decode cL_law 1011 = .ok (.iload 5, 2) := by decide +kernel
theorem dL_law_1013 : decode cL_law 1013 = .ok (.if_icmp .eq 5, 3) := by decide +kernel
theorem dL_law_1016 : decode cL_law 1016 = .ok (.iconst 0, 1) := by decide +kernel
theorem dL_law_1017 : decode cL_law 1017 = .ok (.ireturn, 1) := by decide +kernel
theorem dL_law_1018 : decode cL_law 1018 = .ok (.goto 746, 3) := by decide +kernel
theorem dL_law_1021 : decode cL_law 1021 = .ok (.aload_n 1, 1) := by decide +kernel
theorem dL_law_1022 : decode cL_law 1022 = .ok (.aload_n 0, 1) := by decide +kernel
theorem dL_law_1023 : decode cL_law 1023 = .ok (.iload 4, 2) := by decide +kernel
theorem dL_law_1025 : decode cL_law 1025 = .ok (.iconst 1, 1) := by decide +kernel
theorem dL_law_1026 : decode cL_law 1026 = .ok (.iadd, 1) := by decide +kernel
theorem dL_law_1027 : decode cL_law 1027 = .ok (.iaload, 1) := by decide +kernel
theorem dL_law_1028 : decode cL_law 1028 = .ok (.aload_n 0, 1) := by decide +kernel
theorem dL_law_1029 : decode cL_law 1029 = .ok (.iload 4, 2) := by decide +kernel
theorem dL_law_1031 : decode cL_law 1031 = .ok (.iconst 2, 1) := by decide +kernel
theorem dL_law_1032 : decode cL_law 1032 = .ok (.iadd, 1) := by decide +kernel
theorem dL_law_1033 : decode cL_law 1033 = .ok (.iaload, 1) := by decide +kernel
theorem dL_law_1034 : decode cL_law 1034 = .ok (.aload_n 3, 1) := by decide +kernel
theorem dL_law_1035 : decode cL_law 1035 = .ok (.invokestatic 153, 3) := by decide +kernel
theorem dL_law_1038 : decode cL_law 1038 = .ok (.istore 5, 2) := by decide +kernel
theorem dL_law_1040 : decode cL_law 1040 = .ok (.aload_n 2, 1) := by decide +kernel
theorem dL_law_1041 : decode cL_law 1041 = .ok (.aload_n 0, 1) := by decide +kernel
theorem dL_law_1042 : decode cL_law 1042 = .ok (.iload 4, 2) := by decide +kernel
theorem dL_law_1044 : decode cL_law 1044 = .ok (.iconst 1, 1) := by decide +kernel
theorem dL_law_1045 : decode cL_law 1045 = .ok (.iadd, 1) := by decide +kernel
theorem dL_law_1046 : decode cL_law 1046 = .ok (.iaload, 1) := by decide +kernel
theorem dL_law_1047 : decode cL_law 1047 = .ok (.aload_n 0, 1) := by decide +kernel
theorem dL_law_1048 : decode cL_law 1048 = .ok (.iload 4, 2) := by decide +kernel
theorem dL_law_1050 : decode cL_law 1050 = .ok (.iconst 2, 1) := by decide +kernel
theorem dL_law_1051 : decode cL_law 1051 = .ok (.iadd, 1) := by decide +kernel
theorem dL_law_1052 : decode cL_law 1052 = .ok (.iaload, 1) := by decide +kernel
theorem dL_law_1053 : decode cL_law 1053 = .ok (.invokevirtual 155, 3) := by decide +kernel
theorem dL_law_1056 : decode cL_law 1056 = .ok (.istore 6, 2) := by decide +kernel
theorem dL_law_1058 : decode cL_law 1058 = .ok (.aload_n 2, 1) := by decide +kernel
theorem dL_law_1059 : decode cL_law 1059 = .ok (.invokevirtual 101, 3) := by decide +kernel
theorem dL_law_1062 : decode cL_law 1062 = .ok (.iload 5, 2) := by decide +kernel
theorem dL_law_1064 : decode cL_law 1064 = .ok (.if_icmp .eq 5, 3) := by decide +kernel
theorem dL_law_1067 : decode cL_law 1067 = .ok (.iconst 0, 1) := by decide +kernel
theorem dL_law_1068 : decode cL_law 1068 = .ok (.ireturn, 1) := by decide +kernel
theorem dL_law_1069 : decode cL_law 1069 = .ok (.iload 5, 2) := by decide +kernel
theorem dL_law_1071 : decode cL_law 1071 = .ok (.ifCond .ne 15, 3) := by decide +kernel
theorem dL_law_1074 : decode cL_law 1074 = .ok (.aload_n 3, 1) := by decide +kernel
theorem dL_law_1075 : decode cL_law 1075 = .ok (.iconst 0, 1) := by decide +kernel
theorem dL_law_1076 : decode cL_law 1076 = .ok (.laload, 1) := by decide +kernel
theorem dL_law_1077 : decode cL_law 1077 = .ok (.iload 6, 2) := by decide +kernel
theorem dL_law_1079 : decode cL_law 1079 = .ok (.i2l, 1) := by decide +kernel
theorem dL_law_1080 : decode cL_law 1080 = .ok (.lcmp, 1) := by decide +kernel
theorem dL_law_1081 : decode cL_law 1081 = .ok (.ifCond .eq 5, 3) := by decide +kernel
theorem dL_law_1084 : decode cL_law 1084 = .ok (.iconst 0, 1) := by decide +kernel
theorem dL_law_1085 : decode cL_law 1085 = .ok (.ireturn, 1) := by decide +kernel
theorem dL_law_1086 : decode cL_law 1086 = .ok (.goto 678, 3) := by decide +kernel
theorem dL_law_1089 : decode cL_law 1089 = .ok (.aload_n 1, 1) := by decide +kernel
theorem dL_law_1090 : decode cL_law 1090 = .ok (.aload_n 0, 1) := by decide +kernel
theorem dL_law_1091 : decode cL_law 1091 = .ok (.iload 4, 2) := by decide +kernel
theorem dL_law_1093 : decode cL_law 1093 = .ok (.iconst 1, 1) := by decide +kernel
theorem dL_law_1094 : decode cL_law 1094 = .ok (.iadd, 1) := by decide +kernel
theorem dL_law_1095 : decode cL_law 1095 = .ok (.iaload, 1) := by decide +kernel
theorem dL_law_1096 : decode cL_law 1096 = .ok (.aload_n 3, 1) := by decide +kernel
theorem dL_law_1097 : decode cL_law 1097 = .ok (.invokestatic 156, 3) := by decide +kernel
theorem dL_law_1100 : decode cL_law 1100 = .ok (.istore 5, 2) := by decide +kernel
theorem dL_law_1102 : decode cL_law 1102 = .ok (.aload_n 2, 1) := by decide +kernel
theorem dL_law_1103 : decode cL_law 1103 = .ok (.aload_n 0, 1) := by decide +kernel
theorem dL_law_1104 : decode cL_law 1104 = .ok (.iload 4, 2) := by decide +kernel
theorem dL_law_1106 : decode cL_law 1106 = .ok (.iconst 1, 1) := by decide +kernel
theorem dL_law_1107 : decode cL_law 1107 = .ok (.iadd, 1) := by decide +kernel
theorem dL_law_1108 : decode cL_law 1108 = .ok (.iaload, 1) := by decide +kernel
theorem dL_law_1109 : decode cL_law 1109 = .ok (.invokevirtual 158, 3) := by decide +kernel
theorem dL_law_1112 : decode cL_law 1112 = .ok (.istore 6, 2) := by decide +kernel
theorem dL_law_1114 : decode cL_law 1114 = .ok (.aload_n 2, 1) := by decide +kernel
theorem dL_law_1115 : decode cL_law 1115 = .ok (.invokevirtual 101, 3) := by decide +kernel
theorem dL_law_1118 : decode cL_law 1118 = .ok (.iload 5, 2) := by decide +kernel
theorem dL_law_1120 : decode cL_law 1120 = .ok (.if_icmp .eq 5, 3) := by decide +kernel
theorem dL_law_1123 : decode cL_law 1123 = .ok (.iconst 0, 1) := by decide +kernel
theorem dL_law_1124 : decode cL_law 1124 = .ok (.ireturn, 1) := by decide +kernel
theorem dL_law_1125 : decode cL_law 1125 = .ok (.iload 5, 2) := by decide +kernel
theorem dL_law_1127 : decode cL_law 1127 = .ok (.ifCond .ne 15, 3) := by decide +kernel
theorem dL_law_1130 : decode cL_law 1130 = .ok (.aload_n 3, 1) := by decide +kernel
theorem dL_law_1131 : decode cL_law 1131 = .ok (.iconst 0, 1) := by decide +kernel
theorem dL_law_1132 : decode cL_law 1132 = .ok (.laload, 1) := by decide +kernel
theorem dL_law_1133 : decode cL_law 1133 = .ok (.iload 6, 2) := by decide +kernel
theorem dL_law_1135 : decode cL_law 1135 = .ok (.i2l, 1) := by decide +kernel
theorem dL_law_1136 : decode cL_law 1136 = .ok (.lcmp, 1) := by decide +kernel
theorem dL_law_1137 : decode cL_law 1137 = .ok (.ifCond .eq 5, 3) := by decide +kernel
theorem dL_law_1140 : decode cL_law 1140 = .ok (.iconst 0, 1) := by decide +kernel
theorem dL_law_1141 : decode cL_law 1141 = .ok (.ireturn, 1) := by decide +kernel
theorem dL_law_1142 : decode cL_law 1142 = .ok (.goto 622, 3) := by decide +kernel
theorem dL_law_1145 : decode cL_law 1145 = .ok (.aload_n 1, 1) := by decide +kernel
theorem dL_law_1146 : decode cL_law 1146 = .ok (.aload_n 0, 1) := by decide +kernel
theorem dL_law_1147 : decode cL_law 1147 = .ok (.iload 4, 2) := by decide +kernel
theorem dL_law_1149 : decode cL_law 1149 = .ok (.iconst 1, 1) := by decide +kernel
theorem dL_law_1150 : decode cL_law 1150 = .ok (.iadd, 1) := by decide +kernel
theorem dL_law_1151 : decode cL_law 1151 = .ok (.iaload, 1) := by decide +kernel
theorem dL_law_1152 : decode cL_law 1152 = .ok (.aload_n 0, 1) := by decide +kernel
theorem dL_law_1153 : decode cL_law 1153 = .ok (.iload 4, 2) := by decide +kernel
theorem dL_law_1155 : decode cL_law 1155 = .ok (.iconst 2, 1) := by decide +kernel
theorem dL_law_1156 : decode cL_law 1156 = .ok (.iadd, 1) := by decide +kernel
theorem dL_law_1157 : decode cL_law 1157 = .ok (.iaload, 1) := by decide +kernel
theorem dL_law_1158 : decode cL_law 1158 = .ok (.aload_n 3, 1) := by decide +kernel
theorem dL_law_1159 : decode cL_law 1159 = .ok (.invokestatic 159, 3) := by decide +kernel
theorem dL_law_1162 : decode cL_law 1162 = .ok (.istore 5, 2) := by decide +kernel
theorem dL_law_1164 : decode cL_law 1164 = .ok (.aload_n 2, 1) := by decide +kernel
theorem dL_law_1165 : decode cL_law 1165 = .ok (.aload_n 0, 1) := by decide +kernel
theorem dL_law_1166 : decode cL_law 1166 = .ok (.iload 4, 2) := by decide +kernel
theorem dL_law_1168 : decode cL_law 1168 = .ok (.iconst 1, 1) := by decide +kernel
theorem dL_law_1169 : decode cL_law 1169 = .ok (.iadd, 1) := by decide +kernel
theorem dL_law_1170 : decode cL_law 1170 = .ok (.iaload, 1) := by decide +kernel
theorem dL_law_1171 : decode cL_law 1171 = .ok (.aload_n 0, 1) := by decide +kernel
theorem dL_law_1172 : decode cL_law 1172 = .ok (.iload 4, 2) := by decide +kernel
theorem dL_law_1174 : decode cL_law 1174 = .ok (.iconst 2, 1) := by decide +kernel
theorem dL_law_1175 : decode cL_law 1175 = .ok (.iadd, 1) := by decide +kernel
theorem dL_law_1176 : decode cL_law 1176 = .ok (.iaload, 1) := by decide +kernel
theorem dL_law_1177 : decode cL_law 1177 = .ok (.invokevirtual 161, 3) := by decide +kernel
theorem dL_law_1180 : decode cL_law 1180 = .ok (.istore 6, 2) := by decide +kernel
theorem dL_law_1182 : decode cL_law 1182 = .ok (.aload_n 2, 1) := by decide +kernel
theorem dL_law_1183 : decode cL_law 1183 = .ok (.invokevirtual 101, 3) := by decide +kernel
theorem dL_law_1186 : decode cL_law 1186 = .ok (.iload 5, 2) := by decide +kernel
theorem dL_law_1188 : decode cL_law 1188 = .ok (.if_icmp .eq 5, 3) := by decide +kernel
theorem dL_law_1191 : decode cL_law 1191 = .ok (.iconst 0, 1) := by decide +kernel
theorem dL_law_1192 : decode cL_law 1192 = .ok (.ireturn, 1) := by decide +kernel
theorem dL_law_1193 : decode cL_law 1193 = .ok (.iload 5, 2) := by decide +kernel
theorem dL_law_1195 : decode cL_law 1195 = .ok (.ifCond .ne 15, 3) := by decide +kernel
theorem dL_law_1198 : decode cL_law 1198 = .ok (.aload_n 3, 1) := by decide +kernel
theorem dL_law_1199 : decode cL_law 1199 = .ok (.iconst 0, 1) := by decide +kernel
theorem dL_law_1200 : decode cL_law 1200 = .ok (.laload, 1) := by decide +kernel
theorem dL_law_1201 : decode cL_law 1201 = .ok (.iload 6, 2) := by decide +kernel
theorem dL_law_1203 : decode cL_law 1203 = .ok (.i2l, 1) := by decide +kernel
theorem dL_law_1204 : decode cL_law 1204 = .ok (.lcmp, 1) := by decide +kernel
theorem dL_law_1205 : decode cL_law 1205 = .ok (.ifCond .eq 5, 3) := by decide +kernel
theorem dL_law_1208 : decode cL_law 1208 = .ok (.iconst 0, 1) := by decide +kernel
theorem dL_law_1209 : decode cL_law 1209 = .ok (.ireturn, 1) := by decide +kernel
theorem dL_law_1210 : decode cL_law 1210 = .ok (.goto 554, 3) := by decide +kernel
theorem dL_law_1213 : decode cL_law 1213 = .ok (.aload_n 1, 1) := by decide +kernel
theorem dL_law_1214 : decode cL_law 1214 = .ok (.invokevirtual 162, 3) := by decide +kernel
theorem dL_law_1217 : decode cL_law 1217 = .ok (.aload_n 2, 1) := by decide +kernel
theorem dL_law_1218 : decode cL_law 1218 = .ok (.invokevirtual 165, 3) := by decide +kernel
theorem dL_law_1221 : decode cL_law 1221 = .ok (.if_icmp .eq 543, 3) := by decide +kernel
theorem dL_law_1224 : decode cL_law 1224 = .ok (.iconst 0, 1) := by decide +kernel
theorem dL_law_1225 : decode cL_law 1225 = .ok (.ireturn, 1) := by decide +kernel
theorem dL_law_1226 : decode cL_law 1226 = .ok (.aload_n 1, 1) := by decide +kernel
theorem dL_law_1227 : decode cL_law 1227 = .ok (.aload_n 0, 1) := by decide +kernel
theorem dL_law_1228 : decode cL_law 1228 = .ok (.iload 4, 2) := by decide +kernel
theorem dL_law_1230 : decode cL_law 1230 = .ok (.iconst 1, 1) := by decide +kernel
theorem dL_law_1231 : decode cL_law 1231 = .ok (.iadd, 1) := by decide +kernel
theorem dL_law_1232 : decode cL_law 1232 = .ok (.iaload, 1) := by decide +kernel
theorem dL_law_1233 : decode cL_law 1233 = .ok (.aload_n 0, 1) := by decide +kernel
theorem dL_law_1234 : decode cL_law 1234 = .ok (.iload 4, 2) := by decide +kernel
theorem dL_law_1236 : decode cL_law 1236 = .ok (.iconst 2, 1) := by decide +kernel
theorem dL_law_1237 : decode cL_law 1237 = .ok (.iadd, 1) := by decide +kernel
theorem dL_law_1238 : decode cL_law 1238 = .ok (.iaload, 1) := by decide +kernel
theorem dL_law_1239 : decode cL_law 1239 = .ok (.aload_n 3, 1) := by decide +kernel
theorem dL_law_1240 : decode cL_law 1240 = .ok (.invokestatic 166, 3) := by decide +kernel
theorem dL_law_1243 : decode cL_law 1243 = .ok (.istore 5, 2) := by decide +kernel
theorem dL_law_1245 : decode cL_law 1245 = .ok (.aload_n 2, 1) := by decide +kernel
theorem dL_law_1246 : decode cL_law 1246 = .ok (.aload_n 0, 1) := by decide +kernel
theorem dL_law_1247 : decode cL_law 1247 = .ok (.iload 4, 2) := by decide +kernel
theorem dL_law_1249 : decode cL_law 1249 = .ok (.iconst 1, 1) := by decide +kernel
theorem dL_law_1250 : decode cL_law 1250 = .ok (.iadd, 1) := by decide +kernel
theorem dL_law_1251 : decode cL_law 1251 = .ok (.iaload, 1) := by decide +kernel
theorem dL_law_1252 : decode cL_law 1252 = .ok (.aload_n 0, 1) := by decide +kernel
theorem dL_law_1253 : decode cL_law 1253 = .ok (.iload 4, 2) := by decide +kernel
theorem dL_law_1255 : decode cL_law 1255 = .ok (.iconst 2, 1) := by decide +kernel
theorem dL_law_1256 : decode cL_law 1256 = .ok (.iadd, 1) := by decide +kernel
theorem dL_law_1257 : decode cL_law 1257 = .ok (.iaload, 1) := by decide +kernel
theorem dL_law_1258 : decode cL_law 1258 = .ok (.invokevirtual 168, 3) := by decide +kernel
theorem dL_law_1261 : decode cL_law 1261 = .ok (.istore 6, 2) := by decide +kernel
theorem dL_law_1263 : decode cL_law 1263 = .ok (.aload_n 2, 1) := by decide +kernel
theorem dL_law_1264 : decode cL_law 1264 = .ok (.invokevirtual 101, 3) := by decide +kernel
theorem dL_law_1267 : decode cL_law 1267 = .ok (.iload 5, 2) := by decide +kernel
theorem dL_law_1269 : decode cL_law 1269 = .ok (.if_icmp .eq 5, 3) := by decide +kernel
theorem dL_law_1272 : decode cL_law 1272 = .ok (.iconst 0, 1) := by decide +kernel
theorem dL_law_1273 : decode cL_law 1273 = .ok (.ireturn, 1) := by decide +kernel
theorem dL_law_1274 : decode cL_law 1274 = .ok (.iload 5, 2) := by decide +kernel
theorem dL_law_1276 : decode cL_law 1276 = .ok (.ifCond .ne 15, 3) := by decide +kernel
theorem dL_law_1279 : decode cL_law 1279 = .ok (.aload_n 3, 1) := by decide +kernel
theorem dL_law_1280 : decode cL_law 1280 = .ok (.iconst 0, 1) := by decide +kernel
theorem dL_law_1281 : decode cL_law 1281 = .ok (.laload, 1) := by decide +kernel
theorem dL_law_1282 : decode cL_law 1282 = .ok (.iload 6, 2) := by decide +kernel
theorem dL_law_1284 : decode cL_law 1284 = .ok (.i2l, 1) := by decide +kernel
theorem dL_law_1285 : decode cL_law 1285 = .ok (.lcmp, 1) := by decide +kernel
theorem dL_law_1286 : decode cL_law 1286 = .ok (.ifCond .eq 5, 3) := by decide +kernel
theorem dL_law_1289 : decode cL_law 1289 = .ok (.iconst 0, 1) := by decide +kernel
theorem dL_law_1290 : decode cL_law 1290 = .ok (.ireturn, 1) := by decide +kernel
theorem dL_law_1291 : decode cL_law 1291 = .ok (.goto 473, 3) := by decide +kernel
theorem dL_law_1294 : decode cL_law 1294 = .ok (.aload_n 1, 1) := by decide +kernel
theorem dL_law_1295 : decode cL_law 1295 = .ok (.aload_n 0, 1) := by decide +kernel
theorem dL_law_1296 : decode cL_law 1296 = .ok (.iload 4, 2) := by decide +kernel
theorem dL_law_1298 : decode cL_law 1298 = .ok (.iconst 1, 1) := by decide +kernel
theorem dL_law_1299 : decode cL_law 1299 = .ok (.iadd, 1) := by decide +kernel
theorem dL_law_1300 : decode cL_law 1300 = .ok (.iaload, 1) := by decide +kernel
theorem dL_law_1301 : decode cL_law 1301 = .ok (.aload_n 0, 1) := by decide +kernel
theorem dL_law_1302 : decode cL_law 1302 = .ok (.iload 4, 2) := by decide +kernel
theorem dL_law_1304 : decode cL_law 1304 = .ok (.iconst 2, 1) := by decide +kernel
theorem dL_law_1305 : decode cL_law 1305 = .ok (.iadd, 1) := by decide +kernel
theorem dL_law_1306 : decode cL_law 1306 = .ok (.iaload, 1) := by decide +kernel
theorem dL_law_1307 : decode cL_law 1307 = .ok (.aload_n 3, 1) := by decide +kernel
theorem dL_law_1308 : decode cL_law 1308 = .ok (.invokestatic 169, 3) := by decide +kernel
theorem dL_law_1311 : decode cL_law 1311 = .ok (.istore 5, 2) := by decide +kernel
theorem dL_law_1313 : decode cL_law 1313 = .ok (.aload_n 2, 1) := by decide +kernel
theorem dL_law_1314 : decode cL_law 1314 = .ok (.aload_n 0, 1) := by decide +kernel
theorem dL_law_1315 : decode cL_law 1315 = .ok (.iload 4, 2) := by decide +kernel
theorem dL_law_1317 : decode cL_law 1317 = .ok (.iconst 1, 1) := by decide +kernel
theorem dL_law_1318 : decode cL_law 1318 = .ok (.iadd, 1) := by decide +kernel
theorem dL_law_1319 : decode cL_law 1319 = .ok (.iaload, 1) := by decide +kernel
theorem dL_law_1320 : decode cL_law 1320 = .ok (.aload_n 0, 1) := by decide +kernel
theorem dL_law_1321 : decode cL_law 1321 = .ok (.iload 4, 2) := by decide +kernel
theorem dL_law_1323 : decode cL_law 1323 = .ok (.iconst 2, 1) := by decide +kernel
theorem dL_law_1324 : decode cL_law 1324 = .ok (.iadd, 1) := by decide +kernel
theorem dL_law_1325 : decode cL_law 1325 = .ok (.iaload, 1) := by decide +kernel
theorem dL_law_1326 : decode cL_law 1326 = .ok (.invokevirtual 171, 3) := by decide +kernel
theorem dL_law_1329 : decode cL_law 1329 = .ok (.istore 6, 2) := by decide +kernel
theorem dL_law_1331 : decode cL_law 1331 = .ok (.aload_n 2, 1) := by decide +kernel
theorem dL_law_1332 : decode cL_law 1332 = .ok (.invokevirtual 101, 3) := by decide +kernel
theorem dL_law_1335 : decode cL_law 1335 = .ok (.iload 5, 2) := by decide +kernel
theorem dL_law_1337 : decode cL_law 1337 = .ok (.if_icmp .eq 5, 3) := by decide +kernel
theorem dL_law_1340 : decode cL_law 1340 = .ok (.iconst 0, 1) := by decide +kernel
theorem dL_law_1341 : decode cL_law 1341 = .ok (.ireturn, 1) := by decide +kernel
theorem dL_law_1342 : decode cL_law 1342 = .ok (.iload 5, 2) := by decide +kernel
theorem dL_law_1344 : decode cL_law 1344 = .ok (.ifCond .ne 15, 3) := by decide +kernel
theorem dL_law_1347 : decode cL_law 1347 = .ok (.aload_n 3, 1) := by decide +kernel
theorem dL_law_1348 : decode cL_law 1348 = .ok (.iconst 0, 1) := by decide +kernel
theorem dL_law_1349 : decode cL_law 1349 = .ok (.laload, 1) := by decide +kernel
theorem dL_law_1350 : decode cL_law 1350 = .ok (.iload 6, 2) := by decide +kernel
theorem dL_law_1352 : decode cL_law 1352 = .ok (.i2l, 1) := by decide +kernel
theorem dL_law_1353 : decode cL_law 1353 = .ok (.lcmp, 1) := by decide +kernel
theorem dL_law_1354 : decode cL_law 1354 = .ok (.ifCond .eq 5, 3) := by decide +kernel
theorem dL_law_1357 : decode cL_law 1357 = .ok (.iconst 0, 1) := by decide +kernel
theorem dL_law_1358 : decode cL_law 1358 = .ok (.ireturn, 1) := by decide +kernel
theorem dL_law_1359 : decode cL_law 1359 = .ok (.goto 405, 3) := by decide +kernel
theorem dL_law_1362 : decode cL_law 1362 = .ok (.aload_n 1, 1) := by decide +kernel
theorem dL_law_1363 : decode cL_law 1363 = .ok (.aload_n 0, 1) := by decide +kernel
theorem dL_law_1364 : decode cL_law 1364 = .ok (.iload 4, 2) := by decide +kernel
theorem dL_law_1366 : decode cL_law 1366 = .ok (.iconst 1, 1) := by decide +kernel
theorem dL_law_1367 : decode cL_law 1367 = .ok (.iadd, 1) := by decide +kernel
theorem dL_law_1368 : decode cL_law 1368 = .ok (.iaload, 1) := by decide +kernel
theorem dL_law_1369 : decode cL_law 1369 = .ok (.aload_n 0, 1) := by decide +kernel
theorem dL_law_1370 : decode cL_law 1370 = .ok (.iload 4, 2) := by decide +kernel
theorem dL_law_1372 : decode cL_law 1372 = .ok (.iconst 2, 1) := by decide +kernel
theorem dL_law_1373 : decode cL_law 1373 = .ok (.iadd, 1) := by decide +kernel
theorem dL_law_1374 : decode cL_law 1374 = .ok (.iaload, 1) := by decide +kernel
theorem dL_law_1375 : decode cL_law 1375 = .ok (.aload_n 3, 1) := by decide +kernel
theorem dL_law_1376 : decode cL_law 1376 = .ok (.invokestatic 172, 3) := by decide +kernel
theorem dL_law_1379 : decode cL_law 1379 = .ok (.istore 5, 2) := by decide +kernel
theorem dL_law_1381 : decode cL_law 1381 = .ok (.aload_n 2, 1) := by decide +kernel
theorem dL_law_1382 : decode cL_law 1382 = .ok (.aload_n 0, 1) := by decide +kernel
theorem dL_law_1383 : decode cL_law 1383 = .ok (.iload 4, 2) := by decide +kernel
theorem dL_law_1385 : decode cL_law 1385 = .ok (.iconst 1, 1) := by decide +kernel
theorem dL_law_1386 : decode cL_law 1386 = .ok (.iadd, 1) := by decide +kernel
theorem dL_law_1387 : decode cL_law 1387 = .ok (.iaload, 1) := by decide +kernel
theorem dL_law_1388 : decode cL_law 1388 = .ok (.aload_n 0, 1) := by decide +kernel
theorem dL_law_1389 : decode cL_law 1389 = .ok (.iload 4, 2) := by decide +kernel
theorem dL_law_1391 : decode cL_law 1391 = .ok (.iconst 2, 1) := by decide +kernel
theorem dL_law_1392 : decode cL_law 1392 = .ok (.iadd, 1) := by decide +kernel
theorem dL_law_1393 : decode cL_law 1393 = .ok (.iaload, 1) := by decide +kernel
theorem dL_law_1394 : decode cL_law 1394 = .ok (.invokevirtual 174, 3) := by decide +kernel
theorem dL_law_1397 : decode cL_law 1397 = .ok (.istore 6, 2) := by decide +kernel
theorem dL_law_1399 : decode cL_law 1399 = .ok (.aload_n 2, 1) := by decide +kernel
theorem dL_law_1400 : decode cL_law 1400 = .ok (.invokevirtual 101, 3) := by decide +kernel
theorem dL_law_1403 : decode cL_law 1403 = .ok (.iload 5, 2) := by decide +kernel
theorem dL_law_1405 : decode cL_law 1405 = .ok (.if_icmp .eq 5, 3) := by decide +kernel
theorem dL_law_1408 : decode cL_law 1408 = .ok (.iconst 0, 1) := by decide +kernel
theorem dL_law_1409 : decode cL_law 1409 = .ok (.ireturn, 1) := by decide +kernel
theorem dL_law_1410 : decode cL_law 1410 = .ok (.iload 5, 2) := by decide +kernel
theorem dL_law_1412 : decode cL_law 1412 = .ok (.ifCond .ne 15, 3) := by decide +kernel
theorem dL_law_1415 : decode cL_law 1415 = .ok (.aload_n 3, 1) := by decide +kernel
theorem dL_law_1416 : decode cL_law 1416 = .ok (.iconst 0, 1) := by decide +kernel
theorem dL_law_1417 : decode cL_law 1417 = .ok (.laload, 1) := by decide +kernel
theorem dL_law_1418 : decode cL_law 1418 = .ok (.iload 6, 2) := by decide +kernel
theorem dL_law_1420 : decode cL_law 1420 = .ok (.i2l, 1) := by decide +kernel
theorem dL_law_1421 : decode cL_law 1421 = .ok (.lcmp, 1) := by decide +kernel
theorem dL_law_1422 : decode cL_law 1422 = .ok (.ifCond .eq 5, 3) := by decide +kernel
theorem dL_law_1425 : decode cL_law 1425 = .ok (.iconst 0, 1) := by decide +kernel
theorem dL_law_1426 : decode cL_law 1426 = .ok (.ireturn, 1) := by decide +kernel
theorem dL_law_1427 : decode cL_law 1427 = .ok (.goto 337, 3) := by decide +kernel
theorem dL_law_1430 : decode cL_law 1430 = .ok (.aload_n 1, 1) := by decide +kernel
theorem dL_law_1431 : decode cL_law 1431 = .ok (.aload_n 0, 1) := by decide +kernel
theorem dL_law_1432 : decode cL_law 1432 = .ok (.iload 4, 2) := by decide +kernel
theorem dL_law_1434 : decode cL_law 1434 = .ok (.iconst 1, 1) := by decide +kernel
theorem dL_law_1435 : decode cL_law 1435 = .ok (.iadd, 1) := by decide +kernel
theorem dL_law_1436 : decode cL_law 1436 = .ok (.iaload, 1) := by decide +kernel
theorem dL_law_1437 : decode cL_law 1437 = .ok (.aload_n 0, 1) := by decide +kernel
theorem dL_law_1438 : decode cL_law 1438 = .ok (.iload 4, 2) := by decide +kernel
theorem dL_law_1440 : decode cL_law 1440 = .ok (.iconst 2, 1) := by decide +kernel
theorem dL_law_1441 : decode cL_law 1441 = .ok (.iadd, 1) := by decide +kernel
theorem dL_law_1442 : decode cL_law 1442 = .ok (.iaload, 1) := by decide +kernel
theorem dL_law_1443 : decode cL_law 1443 = .ok (.aload_n 0, 1) := by decide +kernel
theorem dL_law_1444 : decode cL_law 1444 = .ok (.iload 4, 2) := by decide +kernel
theorem dL_law_1446 : decode cL_law 1446 = .ok (.iconst 3, 1) := by decide +kernel
theorem dL_law_1447 : decode cL_law 1447 = .ok (.iadd, 1) := by decide +kernel
theorem dL_law_1448 : decode cL_law 1448 = .ok (.iaload, 1) := by decide +kernel
theorem dL_law_1449 : decode cL_law 1449 = .ok (.aload_n 0, 1) := by decide +kernel
theorem dL_law_1450 : decode cL_law 1450 = .ok (.iload 4, 2) := by decide +kernel
theorem dL_law_1452 : decode cL_law 1452 = .ok (.iconst 4, 1) := by decide +kernel
theorem dL_law_1453 : decode cL_law 1453 = .ok (.iadd, 1) := by decide +kernel
theorem dL_law_1454 : decode cL_law 1454 = .ok (.iaload, 1) := by decide +kernel
theorem dL_law_1455 : decode cL_law 1455 = .ok (.aload_n 0, 1) := by decide +kernel
theorem dL_law_1456 : decode cL_law 1456 = .ok (.iload 4, 2) := by decide +kernel
theorem dL_law_1458 : decode cL_law 1458 = .ok (.iconst 5, 1) := by decide +kernel
theorem dL_law_1459 : decode cL_law 1459 = .ok (.iadd, 1) := by decide +kernel
theorem dL_law_1460 : decode cL_law 1460 = .ok (.iaload, 1) := by decide +kernel
theorem dL_law_1461 : decode cL_law 1461 = .ok (.aload_n 3, 1) := by decide +kernel
theorem dL_law_1462 : decode cL_law 1462 = .ok (.invokestatic 175, 3) := by decide +kernel
theorem dL_law_1465 : decode cL_law 1465 = .ok (.istore 5, 2) := by decide +kernel
theorem dL_law_1467 : decode cL_law 1467 = .ok (.aload_n 2, 1) := by decide +kernel
theorem dL_law_1468 : decode cL_law 1468 = .ok (.aload_n 0, 1) := by decide +kernel
theorem dL_law_1469 : decode cL_law 1469 = .ok (.iload 4, 2) := by decide +kernel
theorem dL_law_1471 : decode cL_law 1471 = .ok (.iconst 1, 1) := by decide +kernel
theorem dL_law_1472 : decode cL_law 1472 = .ok (.iadd, 1) := by decide +kernel
theorem dL_law_1473 : decode cL_law 1473 = .ok (.iaload, 1) := by decide +kernel
theorem dL_law_1474 : decode cL_law 1474 = .ok (.aload_n 0, 1) := by decide +kernel
theorem dL_law_1475 : decode cL_law 1475 = .ok (.iload 4, 2) := by decide +kernel
theorem dL_law_1477 : decode cL_law 1477 = .ok (.iconst 2, 1) := by decide +kernel
theorem dL_law_1478 : decode cL_law 1478 = .ok (.iadd, 1) := by decide +kernel
theorem dL_law_1479 : decode cL_law 1479 = .ok (.iaload, 1) := by decide +kernel
theorem dL_law_1480 : decode cL_law 1480 = .ok (.aload_n 0, 1) := by decide +kernel
theorem dL_law_1481 : decode cL_law 1481 = .ok (.iload 4, 2) := by decide +kernel
theorem dL_law_1483 : decode cL_law 1483 = .ok (.iconst 3, 1) := by decide +kernel
theorem dL_law_1484 : decode cL_law 1484 = .ok (.iadd, 1) := by decide +kernel
theorem dL_law_1485 : decode cL_law 1485 = .ok (.iaload, 1) := by decide +kernel
theorem dL_law_1486 : decode cL_law 1486 = .ok (.aload_n 0, 1) := by decide +kernel
theorem dL_law_1487 : decode cL_law 1487 = .ok (.iload 4, 2) := by decide +kernel
theorem dL_law_1489 : decode cL_law 1489 = .ok (.iconst 4, 1) := by decide +kernel
theorem dL_law_1490 : decode cL_law 1490 = .ok (.iadd, 1) := by decide +kernel
theorem dL_law_1491 : decode cL_law 1491 = .ok (.iaload, 1) := by decide +kernel
theorem dL_law_1492 : decode cL_law 1492 = .ok (.aload_n 0, 1) := by decide +kernel
theorem dL_law_1493 : decode cL_law 1493 = .ok (.iload 4, 2) := by decide +kernel
theorem dL_law_1495 : decode cL_law 1495 = .ok (.iconst 5, 1) := by decide +kernel
theorem dL_law_1496 : decode cL_law 1496 = .ok (.iadd, 1) := by decide +kernel
theorem dL_law_1497 : decode cL_law 1497 = .ok (.iaload, 1) := by decide +kernel
theorem dL_law_1498 : decode cL_law 1498 = .ok (.invokevirtual 178, 3) := by decide +kernel
theorem dL_law_1501 : decode cL_law 1501 = .ok (.istore 6, 2) := by decide +kernel
theorem dL_law_1503 : decode cL_law 1503 = .ok (.aload_n 2, 1) := by decide +kernel
theorem dL_law_1504 : decode cL_law 1504 = .ok (.invokevirtual 101, 3) := by decide +kernel
theorem dL_law_1507 : decode cL_law 1507 = .ok (.iload 5, 2) := by decide +kernel
theorem dL_law_1509 : decode cL_law 1509 = .ok (.if_icmp .eq 5, 3) := by decide +kernel
theorem dL_law_1512 : decode cL_law 1512 = .ok (.iconst 0, 1) := by decide +kernel
theorem dL_law_1513 : decode cL_law 1513 = .ok (.ireturn, 1) := by decide +kernel
theorem dL_law_1514 : decode cL_law 1514 = .ok (.iload 5, 2) := by decide +kernel
theorem dL_law_1516 : decode cL_law 1516 = .ok (.ifCond .ne 15, 3) := by decide +kernel
theorem dL_law_1519 : decode cL_law 1519 = .ok (.aload_n 3, 1) := by decide +kernel
theorem dL_law_1520 : decode cL_law 1520 = .ok (.iconst 0, 1) := by decide +kernel
theorem dL_law_1521 : decode cL_law 1521 = .ok (.laload, 1) := by decide +kernel
theorem dL_law_1522 : decode cL_law 1522 = .ok (.iload 6, 2) := by decide +kernel
theorem dL_law_1524 : decode cL_law 1524 = .ok (.i2l, 1) := by decide +kernel
theorem dL_law_1525 : decode cL_law 1525 = .ok (.lcmp, 1) := by decide +kernel
theorem dL_law_1526 : decode cL_law 1526 = .ok (.ifCond .eq 5, 3) := by decide +kernel
theorem dL_law_1529 : decode cL_law 1529 = .ok (.iconst 0, 1) := by decide +kernel
theorem dL_law_1530 : decode cL_law 1530 = .ok (.ireturn, 1) := by decide +kernel
theorem dL_law_1531 : decode cL_law 1531 = .ok (.goto 233, 3) := by decide +kernel
theorem dL_law_1534 : decode cL_law 1534 = .ok (.aload_n 1, 1) := by decide +kernel
theorem dL_law_1535 : decode cL_law 1535 = .ok (.aload_n 0, 1) := by decide +kernel
theorem dL_law_1536 : decode cL_law 1536 = .ok (.iload 4, 2) := by decide +kernel
theorem dL_law_1538 : decode cL_law 1538 = .ok (.iconst 1, 1) := by decide +kernel
theorem dL_law_1539 : decode cL_law 1539 = .ok (.iadd, 1) := by decide +kernel
theorem dL_law_1540 : decode cL_law 1540 = .ok (.iaload, 1) := by decide +kernel
theorem dL_law_1541 : decode cL_law 1541 = .ok (.aload_n 3, 1) := by decide +kernel
theorem dL_law_1542 : decode cL_law 1542 = .ok (.invokestatic 179, 3) := by decide +kernel
theorem dL_law_1545 : decode cL_law 1545 = .ok (.istore 5, 2) := by decide +kernel
theorem dL_law_1547 : decode cL_law 1547 = .ok (.aload_n 2, 1) := by decide +kernel
theorem dL_law_1548 : decode cL_law 1548 = .ok (.aload_n 0, 1) := by decide +kernel
theorem dL_law_1549 : decode cL_law 1549 = .ok (.iload 4, 2) := by decide +kernel
theorem dL_law_1551 : decode cL_law 1551 = .ok (.iconst 1, 1) := by decide +kernel
theorem dL_law_1552 : decode cL_law 1552 = .ok (.iadd, 1) := by decide +kernel
theorem dL_law_1553 : decode cL_law 1553 = .ok (.iaload, 1) := by decide +kernel
theorem dL_law_1554 : decode cL_law 1554 = .ok (.invokevirtual 181, 3) := by decide +kernel
theorem dL_law_1557 : decode cL_law 1557 = .ok (.istore 6, 2) := by decide +kernel
theorem dL_law_1559 : decode cL_law 1559 = .ok (.aload_n 2, 1) := by decide +kernel
theorem dL_law_1560 : decode cL_law 1560 = .ok (.invokevirtual 101, 3) := by decide +kernel
theorem dL_law_1563 : decode cL_law 1563 = .ok (.iload 5, 2) := by decide +kernel
theorem dL_law_1565 : decode cL_law 1565 = .ok (.if_icmp .eq 5, 3) := by decide +kernel
theorem dL_law_1568 : decode cL_law 1568 = .ok (.iconst 0, 1) := by decide +kernel
theorem dL_law_1569 : decode cL_law 1569 = .ok (.ireturn, 1) := by decide +kernel
theorem dL_law_1570 : decode cL_law 1570 = .ok (.iload 5, 2) := by decide +kernel
theorem dL_law_1572 : decode cL_law 1572 = .ok (.ifCond .ne 22, 3) := by decide +kernel
theorem dL_law_1575 : decode cL_law 1575 = .ok (.aload_n 3, 1) := by decide +kernel
theorem dL_law_1576 : decode cL_law 1576 = .ok (.iconst 0, 1) := by decide +kernel
theorem dL_law_1577 : decode cL_law 1577 = .ok (.laload, 1) := by decide +kernel
theorem dL_law_1578 : decode cL_law 1578 = .ok (.iload 6, 2) := by decide +kernel
theorem dL_law_1580 : decode cL_law 1580 = .ok (.ifCond .eq 7, 3) := by decide +kernel
theorem dL_law_1583 : decode cL_law 1583 = .ok (.lconst 1, 1) := by decide +kernel
theorem dL_law_1584 : decode cL_law 1584 = .ok (.goto 4, 3) := by decide +kernel
theorem dL_law_1587 : decode cL_law 1587 = .ok (.lconst 0, 1) := by decide +kernel
theorem dL_law_1588 : decode cL_law 1588 = .ok (.lcmp, 1) := by decide +kernel
theorem dL_law_1589 : decode cL_law 1589 = .ok (.ifCond .eq 5, 3) := by decide +kernel
theorem dL_law_1592 : decode cL_law 1592 = .ok (.iconst 0, 1) := by decide +kernel
theorem dL_law_1593 : decode cL_law 1593 = .ok (.ireturn, 1) := by decide +kernel
theorem dL_law_1594 : decode cL_law 1594 = .ok (.goto 170, 3) := by decide +kernel
theorem dL_law_1597 : decode cL_law 1597 = .ok (.aload_n 1, 1) := by decide +kernel
theorem dL_law_1598 : decode cL_law 1598 = .ok (.aload_n 0, 1) := by decide +kernel
theorem dL_law_1599 : decode cL_law 1599 = .ok (.iload 4, 2) := by decide +kernel
theorem dL_law_1601 : decode cL_law 1601 = .ok (.iconst 1, 1) := by decide +kernel
theorem dL_law_1602 : decode cL_law 1602 = .ok (.iadd, 1) := by decide +kernel
theorem dL_law_1603 : decode cL_law 1603 = .ok (.iaload, 1) := by decide +kernel
theorem dL_law_1604 : decode cL_law 1604 = .ok (.aload_n 0, 1) := by decide +kernel
theorem dL_law_1605 : decode cL_law 1605 = .ok (.iload 4, 2) := by decide +kernel
theorem dL_law_1607 : decode cL_law 1607 = .ok (.iconst 2, 1) := by decide +kernel
theorem dL_law_1608 : decode cL_law 1608 = .ok (.iadd, 1) := by decide +kernel
theorem dL_law_1609 : decode cL_law 1609 = .ok (.iaload, 1) := by decide +kernel
theorem dL_law_1610 : decode cL_law 1610 = .ok (.aload_n 0, 1) := by decide +kernel
theorem dL_law_1611 : decode cL_law 1611 = .ok (.iload 4, 2) := by decide +kernel
theorem dL_law_1613 : decode cL_law 1613 = .ok (.iconst 3, 1) := by decide +kernel
theorem dL_law_1614 : decode cL_law 1614 = .ok (.iadd, 1) := by decide +kernel
theorem dL_law_1615 : decode cL_law 1615 = .ok (.iaload, 1) := by decide +kernel
theorem dL_law_1616 : decode cL_law 1616 = .ok (.aload_n 3, 1) := by decide +kernel
theorem dL_law_1617 : decode cL_law 1617 = .ok (.invokestatic 182, 3) := by decide +kernel
theorem dL_law_1620 : decode cL_law 1620 = .ok (.istore 5, 2) := by decide +kernel
theorem dL_law_1622 : decode cL_law 1622 = .ok (.aload_n 2, 1) := by decide +kernel
theorem dL_law_1623 : decode cL_law 1623 = .ok (.aload_n 0, 1) := by decide +kernel
theorem dL_law_1624 : decode cL_law 1624 = .ok (.iload 4, 2) := by decide +kernel
theorem dL_law_1626 : decode cL_law 1626 = .ok (.iconst 1, 1) := by decide +kernel
theorem dL_law_1627 : decode cL_law 1627 = .ok (.iadd, 1) := by decide +kernel
theorem dL_law_1628 : decode cL_law 1628 = .ok (.iaload, 1) := by decide +kernel
theorem dL_law_1629 : decode cL_law 1629 = .ok (.aload_n 0, 1) := by decide +kernel
theorem dL_law_1630 : decode cL_law 1630 = .ok (.iload 4, 2) := by decide +kernel
theorem dL_law_1632 : decode cL_law 1632 = .ok (.iconst 2, 1) := by decide +kernel
theorem dL_law_1633 : decode cL_law 1633 = .ok (.iadd, 1) := by decide +kernel
theorem dL_law_1634 : decode cL_law 1634 = .ok (.iaload, 1) := by decide +kernel
theorem dL_law_1635 : decode cL_law 1635 = .ok (.aload_n 0, 1) := by decide +kernel
theorem dL_law_1636 : decode cL_law 1636 = .ok (.iload 4, 2) := by decide +kernel
theorem dL_law_1638 : decode cL_law 1638 = .ok (.iconst 3, 1) := by decide +kernel
theorem dL_law_1639 : decode cL_law 1639 = .ok (.iadd, 1) := by decide +kernel
theorem dL_law_1640 : decode cL_law 1640 = .ok (.iaload, 1) := by decide +kernel
theorem dL_law_1641 : decode cL_law 1641 = .ok (.invokevirtual 184, 3) := by decide +kernel
theorem dL_law_1644 : decode cL_law 1644 = .ok (.istore 6, 2) := by decide +kernel
theorem dL_law_1646 : decode cL_law 1646 = .ok (.aload_n 2, 1) := by decide +kernel
theorem dL_law_1647 : decode cL_law 1647 = .ok (.invokevirtual 101, 3) := by decide +kernel
theorem dL_law_1650 : decode cL_law 1650 = .ok (.iload 5, 2) := by decide +kernel
theorem dL_law_1652 : decode cL_law 1652 = .ok (.if_icmp .eq 5, 3) := by decide +kernel
theorem dL_law_1655 : decode cL_law 1655 = .ok (.iconst 0, 1) := by decide +kernel
theorem dL_law_1656 : decode cL_law 1656 = .ok (.ireturn, 1) := by decide +kernel
theorem dL_law_1657 : decode cL_law 1657 = .ok (.iload 5, 2) := by decide +kernel
theorem dL_law_1659 : decode cL_law 1659 = .ok (.ifCond .ne 15, 3) := by decide +kernel
theorem dL_law_1662 : decode cL_law 1662 = .ok (.aload_n 3, 1) := by decide +kernel
theorem dL_law_1663 : decode cL_law 1663 = .ok (.iconst 0, 1) := by decide +kernel
theorem dL_law_1664 : decode cL_law 1664 = .ok (.laload, 1) := by decide +kernel
theorem dL_law_1665 : decode cL_law 1665 = .ok (.iload 6, 2) := by decide +kernel
theorem dL_law_1667 : decode cL_law 1667 = .ok (.i2l, 1) := by decide +kernel
theorem dL_law_1668 : decode cL_law 1668 = .ok (.lcmp, 1) := by decide +kernel
theorem dL_law_1669 : decode cL_law 1669 = .ok (.ifCond .eq 5, 3) := by decide +kernel
theorem dL_law_1672 : decode cL_law 1672 = .ok (.iconst 0, 1) := by decide +kernel
theorem dL_law_1673 : decode cL_law 1673 = .ok (.ireturn, 1) := by decide +kernel
theorem dL_law_1674 : decode cL_law 1674 = .ok (.goto 90, 3) := by decide +kernel
theorem dL_law_1677 : decode cL_law 1677 = .ok (.aload_n 1, 1) := by decide +kernel
theorem dL_law_1678 : decode cL_law 1678 = .ok (.aload_n 0, 1) := by decide +kernel
theorem dL_law_1679 : decode cL_law 1679 = .ok (.iload 4, 2) := by decide +kernel
theorem dL_law_1681 : decode cL_law 1681 = .ok (.iconst 1, 1) := by decide +kernel
theorem dL_law_1682 : decode cL_law 1682 = .ok (.iadd, 1) := by decide +kernel
theorem dL_law_1683 : decode cL_law 1683 = .ok (.iaload, 1) := by decide +kernel
theorem dL_law_1684 : decode cL_law 1684 = .ok (.aload_n 0, 1) := by decide +kernel
theorem dL_law_1685 : decode cL_law 1685 = .ok (.iload 4, 2) := by decide +kernel
theorem dL_law_1687 : decode cL_law 1687 = .ok (.iconst 2, 1) := by decide +kernel
theorem dL_law_1688 : decode cL_law 1688 = .ok (.iadd, 1) := by decide +kernel
theorem dL_law_1689 : decode cL_law 1689 = .ok (.iaload, 1) := by decide +kernel
theorem dL_law_1690 : decode cL_law 1690 = .ok (.aload_n 0, 1) := by decide +kernel
theorem dL_law_1691 : decode cL_law 1691 = .ok (.iload 4, 2) := by decide +kernel
theorem dL_law_1693 : decode cL_law 1693 = .ok (.iconst 3, 1) := by decide +kernel
theorem dL_law_1694 : decode cL_law 1694 = .ok (.iadd, 1) := by decide +kernel
theorem dL_law_1695 : decode cL_law 1695 = .ok (.iaload, 1) := by decide +kernel
theorem dL_law_1696 : decode cL_law 1696 = .ok (.aload_n 3, 1) := by decide +kernel
theorem dL_law_1697 : decode cL_law 1697 = .ok (.invokestatic 185, 3) := by decide +kernel
theorem dL_law_1700 : decode cL_law 1700 = .ok (.istore 5, 2) := by decide +kernel
theorem dL_law_1702 : decode cL_law 1702 = .ok (.aload_n 2, 1) := by decide +kernel
theorem dL_law_1703 : decode cL_law 1703 = .ok (.aload_n 0, 1) := by decide +kernel
theorem dL_law_1704 : decode cL_law 1704 = .ok (.iload 4, 2) := by decide +kernel
theorem dL_law_1706 : decode cL_law 1706 = .ok (.iconst 1, 1) := by decide +kernel
theorem dL_law_1707 : decode cL_law 1707 = .ok (.iadd, 1) := by decide +kernel
theorem dL_law_1708 : decode cL_law 1708 = .ok (.iaload, 1) := by decide +kernel
theorem dL_law_1709 : decode cL_law 1709 = .ok (.aload_n 0, 1) := by decide +kernel
theorem dL_law_1710 : decode cL_law 1710 = .ok (.iload 4, 2) := by decide +kernel
theorem dL_law_1712 : decode cL_law 1712 = .ok (.iconst 2, 1) := by decide +kernel
theorem dL_law_1713 : decode cL_law 1713 = .ok (.iadd, 1) := by decide +kernel
theorem dL_law_1714 : decode cL_law 1714 = .ok (.iaload, 1) := by decide +kernel
theorem dL_law_1715 : decode cL_law 1715 = .ok (.aload_n 0, 1) := by decide +kernel
theorem dL_law_1716 : decode cL_law 1716 = .ok (.iload 4, 2) := by decide +kernel
theorem dL_law_1718 : decode cL_law 1718 = .ok (.iconst 3, 1) := by decide +kernel
theorem dL_law_1719 : decode cL_law 1719 = .ok (.iadd, 1) := by decide +kernel
theorem dL_law_1720 : decode cL_law 1720 = .ok (.iaload, 1) := by decide +kernel
theorem dL_law_1721 : decode cL_law 1721 = .ok (.invokevirtual 187, 3) := by decide +kernel
theorem dL_law_1724 : decode cL_law 1724 = .ok (.istore 6, 2) := by decide +kernel
theorem dL_law_1726 : decode cL_law 1726 = .ok (.aload_n 2, 1) := by decide +kernel
theorem dL_law_1727 : decode cL_law 1727 = .ok (.invokevirtual 101, 3) := by decide +kernel
theorem dL_law_1730 : decode cL_law 1730 = .ok (.iload 5, 2) := by decide +kernel
theorem dL_law_1732 : decode cL_law 1732 = .ok (.if_icmp .eq 5, 3) := by decide +kernel
theorem dL_law_1735 : decode cL_law 1735 = .ok (.iconst 0, 1) := by decide +kernel
theorem dL_law_1736 : decode cL_law 1736 = .ok (.ireturn, 1) := by decide +kernel
theorem dL_law_1737 : decode cL_law 1737 = .ok (.iload 5, 2) := by decide +kernel
theorem dL_law_1739 : decode cL_law 1739 = .ok (.ifCond .ne 22, 3) := by decide +kernel
theorem dL_law_1742 : decode cL_law 1742 = .ok (.aload_n 3, 1) := by decide +kernel
theorem dL_law_1743 : decode cL_law 1743 = .ok (.iconst 0, 1) := by decide +kernel
theorem dL_law_1744 : decode cL_law 1744 = .ok (.laload, 1) := by decide +kernel
theorem dL_law_1745 : decode cL_law 1745 = .ok (.iload 6, 2) := by decide +kernel
theorem dL_law_1747 : decode cL_law 1747 = .ok (.ifCond .eq 7, 3) := by decide +kernel
theorem dL_law_1750 : decode cL_law 1750 = .ok (.lconst 1, 1) := by decide +kernel
theorem dL_law_1751 : decode cL_law 1751 = .ok (.goto 4, 3) := by decide +kernel
theorem dL_law_1754 : decode cL_law 1754 = .ok (.lconst 0, 1) := by decide +kernel
theorem dL_law_1755 : decode cL_law 1755 = .ok (.lcmp, 1) := by decide +kernel
theorem dL_law_1756 : decode cL_law 1756 = .ok (.ifCond .eq 5, 3) := by decide +kernel
theorem dL_law_1759 : decode cL_law 1759 = .ok (.iconst 0, 1) := by decide +kernel
theorem dL_law_1760 : decode cL_law 1760 = .ok (.ireturn, 1) := by decide +kernel
theorem dL_law_1761 : decode cL_law 1761 = .ok (.goto 3, 3) := by decide +kernel
theorem dL_law_1764 : decode cL_law 1764 = .ok (.iinc 4 6, 3) := by decide +kernel
theorem dL_law_1767 : decode cL_law 1767 = .ok (.goto (-1744), 3) := by decide +kernel
theorem dL_law_1770 : decode cL_law 1770 = .ok (.iconst 1, 1) := by decide +kernel
theorem dL_law_1771 : decode cL_law 1771 = .ok (.ireturn, 1) := by decide +kernel
