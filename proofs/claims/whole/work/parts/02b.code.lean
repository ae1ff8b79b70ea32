theorem dX7_init_0 : decode cX7_init 0 = .ok (.aload_n 0, 1) := by decide +kernel
theorem dX7_init_1 : decode cX7_init 1 = .ok (.invokespecial 1, 3) := by decide +kernel
theorem dX7_init_4 : decode cX7_init 4 = .ok (.aload_n 0, 1) := by decide +kernel
theorem dX7_init_5 : decode cX7_init 5 = .ok (.bipush 10, 2) := by decide +kernel
theorem dX7_init_7 : decode cX7_init 7 = .ok (.newarray .boolean, 2) := by decide +kernel
theorem dX7_init_9 : decode cX7_init 9 = .ok (.putfield 7, 3) := by decide +kernel
theorem dX7_init_12 : decode cX7_init 12 = .ok (.aload_n 0, 1) := by decide +kernel
theorem dX7_init_13 : decode cX7_init 13 = .ok (.bipush 10, 2) := by decide +kernel
theorem dX7_init_15 : decode cX7_init 15 = .ok (.newarray .int, 2) := by decide +kernel
theorem dX7_init_17 : decode cX7_init 17 = .ok (.putfield 13, 3) := by decide +kernel
theorem dX7_init_20 : decode cX7_init 20 = .ok (.aload_n 0, 1) := by decide +kernel
theorem dX7_init_21 : decode cX7_init 21 = .ok (.bipush 10, 2) := by decide +kernel
theorem dX7_init_23 : decode cX7_init 23 = .ok (.newarray .int, 2) := by decide +kernel
theorem dX7_init_25 : decode cX7_init 25 = .ok (.putfield 17, 3) := by decide +kernel
theorem dX7_init_28 : decode cX7_init 28 = .ok (.aload_n 0, 1) := by decide +kernel
theorem dX7_init_29 : decode cX7_init 29 = .ok (.bipush 24, 2) := by decide +kernel
theorem dX7_init_31 : decode cX7_init 31 = .ok (.newarray .long, 2) := by decide +kernel
theorem dX7_init_33 : decode cX7_init 33 = .ok (.putfield 20, 3) := by decide +kernel
theorem dX7_init_36 : decode cX7_init 36 = .ok (.aload_n 0, 1) := by decide +kernel
theorem dX7_init_37 : decode cX7_init 37 = .ok (.sipush 300, 3) := by decide +kernel
theorem dX7_init_40 : decode cX7_init 40 = .ok (.newarray .int, 2) := by decide +kernel
theorem dX7_init_42 : decode cX7_init 42 = .ok (.putfield 24, 3) := by decide +kernel
theorem dX7_init_45 : decode cX7_init 45 = .ok (.aload_n 0, 1) := by decide +kernel
theorem dX7_init_46 : decode cX7_init 46 = .ok (.sipush 300, 3) := by decide +kernel
theorem dX7_init_49 : decode cX7_init 49 = .ok (.newarray .int, 2) := by decide +kernel
theorem dX7_init_51 : decode cX7_init 51 = .ok (.putfield 27, 3) := by decide +kernel
theorem dX7_init_54 : decode cX7_init 54 = .ok (.aload_n 0, 1) := by decide +kernel
theorem dX7_init_55 : decode cX7_init 55 = .ok (.sipush 300, 3) := by decide +kernel
theorem dX7_init_58 : decode cX7_init 58 = .ok (.newarray .int, 2) := by decide +kernel
theorem dX7_init_60 : decode cX7_init 60 = .ok (.putfield 30, 3) := by decide +kernel
theorem dX7_init_63 : decode cX7_init 63 = .ok (.aload_n 0, 1) := by decide +kernel
theorem dX7_init_64 : decode cX7_init 64 = .ok (.sipush 300, 3) := by decide +kernel
theorem dX7_init_67 : decode cX7_init 67 = .ok (.newarray .int, 2) := by decide +kernel
theorem dX7_init_69 : decode cX7_init 69 = .ok (.putfield 33, 3) := by decide +kernel
theorem dX7_init_72 : decode cX7_init 72 = .ok (.aload_n 0, 1) := by decide +kernel
theorem dX7_init_73 : decode cX7_init 73 = .ok (.sipush 300, 3) := by decide +kernel
theorem dX7_init_76 : decode cX7_init 76 = .ok (.newarray .int, 2) := by decide +kernel
theorem dX7_init_78 : decode cX7_init 78 = .ok (.putfield 36, 3) := by decide +kernel
theorem dX7_init_81 : decode cX7_init 81 = .ok (.aload_n 0, 1) := by decide +kernel
theorem dX7_init_82 : decode cX7_init 82 = .ok (.sipush 300, 3) := by decide +kernel
theorem dX7_init_85 : decode cX7_init 85 = .ok (.newarray .int, 2) := by decide +kernel
theorem dX7_init_87 : decode cX7_init 87 = .ok (.putfield 39, 3) := by decide +kernel
theorem dX7_init_90 : decode cX7_init 90 = .ok (.aload_n 0, 1) := by decide +kernel
theorem dX7_init_91 : decode cX7_init 91 = .ok (.sipush 300, 3) := by decide +kernel
theorem dX7_init_94 : decode cX7_init 94 = .ok (.newarray .int, 2) := by decide +kernel
theorem dX7_init_96 : decode cX7_init 96 = .ok (.putfield 42, 3) := by decide +kernel
theorem dX7_init_99 : decode cX7_init 99 = .ok (.aload_n 0, 1) := by decide +kernel
theorem dX7_init_100 : decode cX7_init 100 = .ok (.sipush 300, 3) := by decide +kernel
theorem dX7_init_103 : decode cX7_init 103 = .ok (.newarray .int, 2) := by decide +kernel
theorem dX7_init_105 : decode cX7_init 105 = .ok (.putfield 45, 3) := by decide +kernel
theorem dX7_init_108 : decode cX7_init 108 = .ok (.aload_n 0, 1) := by decide +kernel
theorem dX7_init_109 : decode cX7_init 109 = .ok (.sipush 300, 3) := by decide +kernel
theorem dX7_init_112 : decode cX7_init 112 = .ok (.newarray .int, 2) := by decide +kernel
theorem dX7_init_114 : decode cX7_init 114 = .ok (.putfield 48, 3) := by decide +kernel
theorem dX7_init_117 : decode cX7_init 117 = .ok (.aload_n 0, 1) := by decide +kernel
theorem dX7_init_118 : decode cX7_init 118 = .ok (.sipush 300, 3) := by decide +kernel
theorem dX7_init_121 : decode cX7_init 121 = .ok (.newarray .int, 2) := by decide +kernel
theorem dX7_init_123 : decode cX7_init 123 = .ok (.putfield 51, 3) := by decide +kernel
theorem dX7_init_126 : decode cX7_init 126 = .ok (.aload_n 0, 1) := by decide +kernel
theorem dX7_init_127 : decode cX7_init 127 = .ok (.sipush 300, 3) := by decide +kernel
theorem dX7_init_130 : decode cX7_init 130 = .ok (.newarray .long, 2) := by decide +kernel
theorem dX7_init_132 : decode cX7_init 132 = .ok (.putfield 54, 3) := by decide +kernel
theorem dX7_init_135 : decode cX7_init 135 = .ok (.aload_n 0, 1) := by decide +kernel
theorem dX7_init_136 : decode cX7_init 136 = .ok (.sipush 300, 3) := by decide +kernel
theorem dX7_init_139 : decode cX7_init 139 = .ok (.newarray .int, 2) := by decide +kernel
theorem dX7_init_141 : decode cX7_init 141 = .ok (.putfield 57, 3) := by decide +kernel
theorem dX7_init_144 : decode cX7_init 144 = .ok (.aload_n 0, 1) := by decide +kernel
theorem dX7_init_145 : decode cX7_init 145 = .ok (.sipush 300, 3) := by decide +kernel
theorem dX7_init_148 : decode cX7_init 148 = .ok (.newarray .int, 2) := by decide +kernel
theorem dX7_init_150 : decode cX7_init 150 = .ok (.putfield 60, 3) := by decide +kernel
theorem dX7_init_153 : decode cX7_init 153 = .ok (.aload_n 0, 1) := by decide +kernel
theorem dX7_init_154 : decode cX7_init 154 = .ok (.sipush 300, 3) := by decide +kernel
theorem dX7_init_157 : decode cX7_init 157 = .ok (.newarray .boolean, 2) := by decide +kernel
theorem dX7_init_159 : decode cX7_init 159 = .ok (.putfield 63, 3) := by decide +kernel
theorem dX7_init_162 : decode cX7_init 162 = .ok (.aload_n 0, 1) := by decide +kernel
theorem dX7_init_163 : decode cX7_init 163 = .ok (.bipush 121, 2) := by decide +kernel
theorem dX7_init_165 : decode cX7_init 165 = .ok (.newarray .int, 2) := by decide +kernel
theorem dX7_init_167 : decode cX7_init 167 = .ok (.putfield 66, 3) := by decide +kernel
theorem dX7_init_170 : decode cX7_init 170 = .ok (.aload_n 0, 1) := by decide +kernel
theorem dX7_init_171 : decode cX7_init 171 = .ok (.bipush 121, 2) := by decide +kernel
theorem dX7_init_173 : decode cX7_init 173 = .ok (.newarray .boolean, 2) := by decide +kernel
theorem dX7_init_175 : decode cX7_init 175 = .ok (.putfield 69, 3) := by decide +kernel
theorem dX7_init_178 : decode cX7_init 178 = .ok (.aload_n 0, 1) := by decide +kernel
theorem dX7_init_179 : decode cX7_init 179 = .ok (.bipush 121, 2) := by decide +kernel
theorem dX7_init_181 : decode cX7_init 181 = .ok (.newarray .int, 2) := by decide +kernel
theorem dX7_init_183 : decode cX7_init 183 = .ok (.putfield 72, 3) := by decide +kernel
theorem dX7_init_186 : decode cX7_init 186 = .ok (.aload_n 0, 1) := by decide +kernel
theorem dX7_init_187 : decode cX7_init 187 = .ok (.bipush 121, 2) := by decide +kernel
theorem dX7_init_189 : decode cX7_init 189 = .ok (.newarray .long, 2) := by decide +kernel
theorem dX7_init_191 : decode cX7_init 191 = .ok (.putfield 75, 3) := by decide +kernel
theorem dX7_init_194 : decode cX7_init 194 = .ok (.aload_n 0, 1) := by decide +kernel
theorem dX7_init_195 : decode cX7_init 195 = .ok (.bipush 121, 2) := by decide +kernel
theorem dX7_init_197 : decode cX7_init 197 = .ok (.newarray .boolean, 2) := by decide +kernel
theorem dX7_init_199 : decode cX7_init 199 = .ok (.putfield 78, 3) := by decide +kernel
theorem dX7_init_202 : decode cX7_init 202 = .ok (.aload_n 0, 1) := by decide +kernel
theorem dX7_init_203 : decode cX7_init 203 = .ok (.bipush 40, 2) := by decide +kernel
theorem dX7_init_205 : decode cX7_init 205 = .ok (.newarray .int, 2) := by decide +kernel
theorem dX7_init_207 : decode cX7_init 207 = .ok (.putfield 81, 3) := by decide +kernel
theorem dX7_init_210 : decode cX7_init 210 = .ok (.aload_n 0, 1) := by decide +kernel
theorem dX7_init_211 : decode cX7_init 211 = .ok (.bipush 40, 2) := by decide +kernel
theorem dX7_init_213 : decode cX7_init 213 = .ok (.newarray .int, 2) := by decide +kernel
theorem dX7_init_215 : decode cX7_init 215 = .ok (.putfield 84, 3) := by decide +kernel
theorem dX7_init_218 : decode cX7_init 218 = .ok (.aload_n 0, 1) := by decide +kernel
theorem dX7_init_219 : decode cX7_init 219 = .ok (.sipush 700, 3) := by decide +kernel
theorem dX7_init_222 : decode cX7_init 222 = .ok (.newarray .int, 2) := by decide +kernel
theorem dX7_init_224 : decode cX7_init 224 = .ok (.putfield 87, 3) := by decide +kernel
theorem dX7_init_227 : decode cX7_init 227 = .ok (.aload_n 0, 1) := by decide +kernel
theorem dX7_init_228 : decode cX7_init 228 = .ok (.sipush 700, 3) := by decide +kernel
theorem dX7_init_231 : decode cX7_init 231 = .ok (.newarray .int, 2) := by decide +kernel
theorem dX7_init_233 : decode cX7_init 233 = .ok (.putfield 90, 3) := by decide +kernel
theorem dX7_init_236 : decode cX7_init 236 = .ok (.aload_n 0, 1) := by decide +kernel
theorem dX7_init_237 : decode cX7_init 237 = .ok (.sipush 700, 3) := by decide +kernel
theorem dX7_init_240 : decode cX7_init 240 = .ok (.newarray .int, 2) := by decide +kernel
theorem dX7_init_242 : decode cX7_init 242 = .ok (.putfield 93, 3) := by decide +kernel
theorem dX7_init_245 : decode cX7_init 245 = .ok (.aload_n 0, 1) := by decide +kernel
theorem dX7_init_246 : decode cX7_init 246 = .ok (.sipush 700, 3) := by decide +kernel
theorem dX7_init_249 : decode cX7_init 249 = .ok (.newarray .long, 2) := by decide +kernel
theorem dX7_init_251 : decode cX7_init 251 = .ok (.putfield 96, 3) := by decide +kernel
theorem dX7_init_254 : decode cX7_init 254 = .ok (.aload_n 0, 1) := by decide +kernel
theorem dX7_init_255 : decode cX7_init 255 = .ok (.sipush 700, 3) := by decide +kernel
theorem dX7_init_258 : decode cX7_init 258 = .ok (.newarray .int, 2) := by decide +kernel
theorem dX7_init_260 : decode cX7_init 260 = .ok (.putfield 99, 3) := by decide +kernel
theorem dX7_init_263 : decode cX7_init 263 = .ok (.aload_n 0, 1) := by decide +kernel
theorem dX7_init_264 : decode cX7_init 264 = .ok (.iload_n 1, 1) := by decide +kernel
theorem dX7_init_265 : decode cX7_init 265 = .ok (.iconst 1, 1) := by decide +kernel
theorem dX7_init_266 : decode cX7_init 266 = .ok (.if_icmp .ge 7, 3) := by decide +kernel
theorem dX7_init_269 : decode cX7_init 269 = .ok (.iconst 1, 1) := by decide +kernel
theorem dX7_init_270 : decode cX7_init 270 = .ok (.goto 15, 3) := by decide +kernel
theorem dX7_init_273 : decode cX7_init 273 = .ok (.iload_n 1, 1) := by decide +kernel
theorem dX7_init_274 : decode cX7_init 274 = .ok (.bipush 16, 2) := by decide +kernel
theorem dX7_init_276 : decode cX7_init 276 = .ok (.if_icmp .le 8, 3) := by decide +kernel
theorem dX7_init_279 : decode cX7_init 279 = .ok (.bipush 16, 2) := by decide +kernel
theorem dX7_init_281 : decode cX7_init 281 = .ok (.goto 4, 3) := by decide +kernel
theorem dX7_init_284 : decode cX7_init 284 = .ok (.iload_n 1, 1) := by decide +kernel
theorem dX7_init_285 : decode cX7_init 285 = .ok (.putfield 102, 3) := by decide +kernel
theorem dX7_init_288 : decode cX7_init 288 = .ok (.iconst 0, 1) := by decide +kernel
theorem dX7_init_289 : decode cX7_init 289 = .ok (.istore_n 2, 1) := by decide +kernel
theorem dX7_init_290 : decode cX7_init 290 = .ok (.iload_n 2, 1) := by decide +kernel
theorem dX7_init_291 : decode cX7_init 291 = .ok (.bipush 10, 2) := by decide +kernel
theorem dX7_init_293 : decode cX7_init 293 = .ok (.if_icmp .ge 23, 3) := by decide +kernel
theorem dX7_init_296 : decode cX7_init 296 = .ok (.aload_n 0, 1) := by decide +kernel
theorem dX7_init_297 : decode cX7_init 297 = .ok (.getfield 13, 3) := by decide +kernel
theorem dX7_init_300 : decode cX7_init 300 = .ok (.iload_n 2, 1) := by decide +kernel
theorem dX7_init_301 : decode cX7_init 301 = .ok (.iconst 1, 1) := by decide +kernel
theorem dX7_init_302 : decode cX7_init 302 = .ok (.iastore, 1) := by decide +kernel
theorem dX7_init_303 : decode cX7_init 303 = .ok (.aload_n 0, 1) := by decide +kernel
theorem dX7_init_304 : decode cX7_init 304 = .ok (.getfield 17, 3) := by decide +kernel
theorem dX7_init_307 : decode cX7_init 307 = .ok (.iload_n 2, 1) := by decide +kernel
theorem dX7_init_308 : decode cX7_init 308 = .ok (.iconst 1, 1) := by decide +kernel
theorem dX7_init_309 : decode cX7_init 309 = .ok (.iastore, 1) := by decide +kernel
theorem dX7_init_310 : decode cX7_init 310 = .ok (.iinc 2 1, 3) := by decide +kernel
theorem dX7_init_313 : decode cX7_init 313 = .ok (.goto (-23), 3) := by decide +kernel
theorem dX7_init_316 : decode cX7_init 316 = .ok (.iconst 0, 1) := by decide +kernel
theorem dX7_init_317 : decode cX7_init 317 = .ok (.istore_n 2, 1) := by decide +kernel
theorem dX7_init_318 : decode cX7_init 318 = .ok (.iload_n 2, 1) := by decide +kernel
theorem dX7_init_319 : decode cX7_init 319 = .ok (.bipush 40, 2) := by decide +kernel
theorem dX7_init_321 : decode cX7_init 321 = .ok (.if_icmp .ge 16, 3) := by decide +kernel
theorem dX7_init_324 : decode cX7_init 324 = .ok (.aload_n 0, 1) := by decide +kernel
theorem dX7_init_325 : decode cX7_init 325 = .ok (.getfield 84, 3) := by decide +kernel
theorem dX7_init_328 : decode cX7_init 328 = .ok (.iload_n 2, 1) := by decide +kernel
theorem dX7_init_329 : decode cX7_init 329 = .ok (.iconst 1, 1) := by decide +kernel
theorem dX7_init_330 : decode cX7_init 330 = .ok (.iastore, 1) := by decide +kernel
theorem dX7_init_331 : decode cX7_init 331 = .ok (.iinc 2 1, 3) := by decide +kernel
theorem dX7_init_334 : decode cX7_init 334 = .ok (.goto (-16), 3) := by decide +kernel
theorem dX7_init_337 : decode cX7_init 337 = .ok (.return_, 1) := by decide +kernel
theorem dX7_in_0 : decode cX7_in 0 = .ok (.lload_n 0, 1) := by decide +kernel
theorem dX7_in_1 : decode cX7_in 1 = .ok (.lload_n 2, 1) := by decide +kernel
theorem dX7_in_2 : decode cX7_in 2 = .ok (.lcmp, 1) := by decide +kernel
theorem dX7_in_3 : decode cX7_in 3 = .ok (.ifCond .lt 14, 3) := by decide +kernel
theorem dX7_in_6 : decode cX7_in 6 = .ok (.lload_n 0, 1) := by decide +kernel
theorem dX7_in_7 : decode cX7_in 7 = .ok (.lload 4, 2) := by decide +kernel
theorem dX7_in_9 : decode cX7_in 9 = .ok (.lcmp, 1) := by decide +kernel
theorem dX7_in_10 : decode cX7_in 10 = .ok (.ifCond .gt 7, 3) := by decide +kernel
theorem dX7_in_13 : decode cX7_in 13 = .ok (.iconst 1, 1) := by decide +kernel
theorem dX7_in_14 : decode cX7_in 14 = .ok (.goto 4, 3) := by decide +kernel
theorem dX7_in_17 : decode cX7_in 17 = .ok (.iconst 0, 1) := by decide +kernel
theorem dX7_in_18 : decode cX7_in 18 = .ok (.ireturn, 1) := by decide +kernel
theorem dX7_isAsk_0 : decode cX7_isAsk 0 = .ok (.iload_n 1, 1) := by decide +kernel
theorem dX7_isAsk_1 : decode cX7_isAsk 1 = .ok (.i2l, 1) := by decide +kernel
theorem dX7_isAsk_2 : decode cX7_isAsk 2 = .ok (.lconst 0, 1) := by decide +kernel
theorem dX7_isAsk_3 : decode cX7_isAsk 3 = .ok (.aload_n 0, 1) := by decide +kernel
theorem dX7_isAsk_4 : decode cX7_isAsk 4 = .ok (.getfield 106, 3) := by decide +kernel
theorem dX7_isAsk_7 : decode cX7_isAsk 7 = .ok (.iconst 1, 1) := by decide +kernel
theorem dX7_isAsk_8 : decode cX7_isAsk 8 = .ok (.isub, 1) := by decide +kernel
theorem dX7_isAsk_9 : decode cX7_isAsk 9 = .ok (.i2l, 1) := by decide +kernel
theorem dX7_isAsk_10 : decode cX7_isAsk 10 = .ok (.invokestatic 109, 3) := by decide +kernel
theorem dX7_isAsk_13 : decode cX7_isAsk 13 = .ok (.ireturn, 1) := by decide +kernel
theorem dX7_lowest_0 : decode cX7_lowest 0 = .ok (.aload_n 0, 1) := by decide +kernel
theorem dX7_lowest_1 : decode cX7_lowest 1 = .ok (.getfield 17, 3) := by decide +kernel
theorem dX7_lowest_4 : decode cX7_lowest 4 = .ok (.iload_n 1, 1) := by decide +kernel
theorem dX7_lowest_5 : decode cX7_lowest 5 = .ok (.iaload, 1) := by decide +kernel
theorem dX7_lowest_6 : decode cX7_lowest 6 = .ok (.istore_n 2, 1) := by decide +kernel
theorem dX7_lowest_7 : decode cX7_lowest 7 = .ok (.iconst 0, 1) := by decide +kernel
theorem dX7_lowest_8 : decode cX7_lowest 8 = .ok (.istore_n 3, 1) := by decide +kernel
theorem dX7_lowest_9 : decode cX7_lowest 9 = .ok (.iload_n 3, 1) := by decide +kernel
theorem dX7_lowest_10 : decode cX7_lowest 10 = .ok (.aload_n 0, 1) := by decide +kernel
theorem dX7_lowest_11 : decode cX7_lowest 11 = .ok (.getfield 106, 3) := by decide +kernel
theorem dX7_lowest_14 : decode cX7_lowest 14 = .ok (.if_icmp .ge 60, 3) := by decide +kernel
theorem dX7_lowest_17 : decode cX7_lowest 17 = .ok (.aload_n 0, 1) := by decide +kernel
theorem dX7_lowest_18 : decode cX7_lowest 18 = .ok (.getfield 24, 3) := by decide +kernel
theorem dX7_lowest_21 : decode cX7_lowest 21 = .ok (.iload_n 3, 1) := by decide +kernel
theorem dX7_lowest_22 : decode cX7_lowest 22 = .ok (.iaload, 1) := by decide +kernel
theorem dX7_lowest_23 : decode cX7_lowest 23 = .ok (.iload_n 1, 1) := by decide +kernel
theorem dX7_lowest_24 : decode cX7_lowest 24 = .ok (.if_icmp .ne 44, 3) := by decide +kernel
theorem dX7_lowest_27 : decode cX7_lowest 27 = .ok (.aload_n 0, 1) := by decide +kernel
theorem dX7_lowest_28 : decode cX7_lowest 28 = .ok (.getfield 27, 3) := by decide +kernel
theorem dX7_lowest_31 : decode cX7_lowest 31 = .ok (.iload_n 3, 1) := by decide +kernel
theorem dX7_lowest_32 : decode cX7_lowest 32 = .ok (.iaload, 1) := by decide +kernel
theorem dX7_lowest_33 : decode cX7_lowest 33 = .ok (.aload_n 0, 1) := by decide +kernel
theorem dX7_lowest_34 : decode cX7_lowest 34 = .ok (.getfield 13, 3) := by decide +kernel
theorem dX7_lowest_37 : decode cX7_lowest 37 = .ok (.iload_n 1, 1) := by decide +kernel
theorem dX7_lowest_38 : decode cX7_lowest 38 = .ok (.iaload, 1) := by decide +kernel
theorem dX7_lowest_39 : decode cX7_lowest 39 = .ok (.if_icmp .ne 29, 3) := by decide +kernel
theorem dX7_lowest_42 : decode cX7_lowest 42 = .ok (.aload_n 0, 1) := by decide +kernel
theorem dX7_lowest_43 : decode cX7_lowest 43 = .ok (.getfield 51, 3) := by decide +kernel
theorem dX7_lowest_46 : decode cX7_lowest 46 = .ok (.iload_n 3, 1) := by decide +kernel
theorem dX7_lowest_47 : decode cX7_lowest 47 = .ok (.iaload, 1) := by decide +kernel
theorem dX7_lowest_48 : decode cX7_lowest 48 = .ok (.ifCond .ne 20, 3) := by decide +kernel
theorem dX7_lowest_51 : decode cX7_lowest 51 = .ok (.aload_n 0, 1) := by decide +kernel
theorem dX7_lowest_52 : decode cX7_lowest 52 = .ok (.getfield 30, 3) := by decide +kernel
theorem dX7_lowest_55 : decode cX7_lowest 55 = .ok (.iload_n 3, 1) := by decide +kernel
theorem dX7_lowest_56 : decode cX7_lowest 56 = .ok (.iaload, 1) := by decide +kernel
theorem dX7_lowest_57 : decode cX7_lowest 57 = .ok (.iload_n 2, 1) := by decide +kernel
theorem dX7_lowest_58 : decode cX7_lowest 58 = .ok (.if_icmp .ge 10, 3) := by decide +kernel
theorem dX7_lowest_61 : decode cX7_lowest 61 = .ok (.aload_n 0, 1) := by decide +kernel
theorem dX7_lowest_62 : decode cX7_lowest 62 = .ok (.getfield 30, 3) := by decide +kernel
theorem dX7_lowest_65 : decode cX7_lowest 65 = .ok (.iload_n 3, 1) := by decide +kernel
theorem dX7_lowest_66 : decode cX7_lowest 66 = .ok (.iaload, 1) := by decide +kernel
theorem dX7_lowest_67 : decode cX7_lowest 67 = .ok (.istore_n 2, 1) := by decide +kernel
theorem dX7_lowest_68 : decode cX7_lowest 68 = .ok (.iinc 3 1, 3) := by decide +kernel
theorem dX7_lowest_71 : decode cX7_lowest 71 = .ok (.goto (-62), 3) := by decide +kernel
theorem dX7_lowest_74 : decode cX7_lowest 74 = .ok (.iload_n 2, 1) := by decide +kernel
theorem dX7_lowest_75 : decode cX7_lowest 75 = .ok (.ireturn, 1) := by decide +kernel
theorem dX7_isUsedUp_0 : decode cX7_isUsedUp 0 = .ok (.aload_n 0, 1) := by decide +kernel
theorem dX7_isUsedUp_1 : decode cX7_isUsedUp 1 = .ok (.getfield 17, 3) := by decide +kernel
theorem dX7_isUsedUp_4 : decode cX7_isUsedUp 4 = .ok (.iload_n 1, 1) := by decide +kernel
theorem dX7_isUsedUp_5 : decode cX7_isUsedUp 5 = .ok (.iaload, 1) := by decide +kernel
theorem dX7_isUsedUp_6 : decode cX7_isUsedUp 6 = .ok (.aload_n 0, 1) := by decide +kernel
theorem dX7_isUsedUp_7 : decode cX7_isUsedUp 7 = .ok (.iload_n 1, 1) := by decide +kernel
theorem dX7_isUsedUp_8 : decode cX7_isUsedUp 8 = .ok (.invokevirtual 113, 3) := by decide +kernel
theorem dX7_isUsedUp_11 : decode cX7_isUsedUp 11 = .ok (.aload_n 0, 1) := by decide +kernel
theorem dX7_isUsedUp_12 : decode cX7_isUsedUp 12 = .ok (.getfield 102, 3) := by decide +kernel
theorem dX7_isUsedUp_15 : decode cX7_isUsedUp 15 = .ok (.iadd, 1) := by decide +kernel
theorem dX7_isUsedUp_16 : decode cX7_isUsedUp 16 = .ok (.if_icmp .lt 7, 3) := by decide +kernel
theorem dX7_isUsedUp_19 : decode cX7_isUsedUp 19 = .ok (.iconst 1, 1) := by decide +kernel
theorem dX7_isUsedUp_20 : decode cX7_isUsedUp 20 = .ok (.goto 4, 3) := by decide +kernel
theorem dX7_isUsedUp_23 : decode cX7_isUsedUp 23 = .ok (.iconst 0, 1) := by decide +kernel
theorem dX7_isUsedUp_24 : decode cX7_isUsedUp 24 = .ok (.ireturn, 1) := by decide +kernel
theorem dX7_send_0 : decode cX7_send 0 = .ok (.aload_n 0, 1) := by decide +kernel
theorem dX7_send_1 : decode cX7_send 1 = .ok (.getfield 117, 3) := by decide +kernel
theorem dX7_send_4 : decode cX7_send 4 = .ok (.ifCond .eq 4, 3) := by decide +kernel
theorem dX7_send_7 : decode cX7_send 7 = .ok (.return_, 1) := by decide +kernel
theorem dX7_send_8 : decode cX7_send 8 = .ok (.aload_n 0, 1) := by decide +kernel
theorem dX7_send_9 : decode cX7_send 9 = .ok (.dup, 1) := by decide +kernel
theorem dX7_send_10 : decode cX7_send 10 = .ok (.getfield 121, 3) := by decide +kernel
theorem dX7_send_13 : decode cX7_send 13 = .ok (.iconst 1, 1) := by decide +kernel
theorem dX7_send_14 : decode cX7_send 14 = .ok (.iadd, 1) := by decide +kernel
theorem dX7_send_15 : decode cX7_send 15 = .ok (.putfield 121, 3) := by decide +kernel
theorem dX7_send_18 : decode cX7_send 18 = .ok (.aload_n 0, 1) := by decide +kernel
theorem dX7_send_19 : decode cX7_send 19 = .ok (.getfield 124, 3) := by decide +kernel
theorem dX7_send_22 : decode cX7_send 22 = .ok (.bipush 120, 2) := by decide +kernel
theorem dX7_send_24 : decode cX7_send 24 = .ok (.if_icmp .ne 14, 3) := by decide +kernel
theorem dX7_send_27 : decode cX7_send 27 = .ok (.aload_n 0, 1) := by decide +kernel
theorem dX7_send_28 : decode cX7_send 28 = .ok (.dup, 1) := by decide +kernel
theorem dX7_send_29 : decode cX7_send 29 = .ok (.getfield 127, 3) := by decide +kernel
theorem dX7_send_32 : decode cX7_send 32 = .ok (.iconst 1, 1) := by decide +kernel
theorem dX7_send_33 : decode cX7_send 33 = .ok (.iadd, 1) := by decide +kernel
theorem dX7_send_34 : decode cX7_send 34 = .ok (.putfield 127, 3) := by decide +kernel
theorem dX7_send_37 : decode cX7_send 37 = .ok (.return_, 1) := by decide +kernel
theorem dX7_send_38 : decode cX7_send 38 = .ok (.aload_n 0, 1) := by decide +kernel
theorem dX7_send_39 : decode cX7_send 39 = .ok (.getfield 66, 3) := by decide +kernel
theorem dX7_send_42 : decode cX7_send 42 = .ok (.aload_n 0, 1) := by decide +kernel
theorem dX7_send_43 : decode cX7_send 43 = .ok (.getfield 124, 3) := by decide +kernel
theorem dX7_send_46 : decode cX7_send 46 = .ok (.iload_n 1, 1) := by decide +kernel
theorem dX7_send_47 : decode cX7_send 47 = .ok (.iastore, 1) := by decide +kernel
theorem dX7_send_48 : decode cX7_send 48 = .ok (.aload_n 0, 1) := by decide +kernel
theorem dX7_send_49 : decode cX7_send 49 = .ok (.getfield 69, 3) := by decide +kernel
theorem dX7_send_52 : decode cX7_send 52 = .ok (.aload_n 0, 1) := by decide +kernel
theorem dX7_send_53 : decode cX7_send 53 = .ok (.getfield 124, 3) := by decide +kernel
theorem dX7_send_56 : decode cX7_send 56 = .ok (.iload_n 2, 1) := by decide +kernel
theorem dX7_send_57 : decode cX7_send 57 = .ok (.bastore, 1) := by decide +kernel
theorem dX7_send_58 : decode cX7_send 58 = .ok (.aload_n 0, 1) := by decide +kernel
theorem dX7_send_59 : decode cX7_send 59 = .ok (.getfield 72, 3) := by decide +kernel
theorem dX7_send_62 : decode cX7_send 62 = .ok (.aload_n 0, 1) := by decide +kernel
theorem dX7_send_63 : decode cX7_send 63 = .ok (.getfield 124, 3) := by decide +kernel
theorem dX7_send_66 : decode cX7_send 66 = .ok (.iload_n 2, 1) := by decide +kernel
theorem dX7_send_67 : decode cX7_send 67 = .ok (.ifCond .eq 7, 3) := by decide +kernel
theorem dX7_send_70 : decode cX7_send 70 = .ok (.iconst (-1), 1) := by decide +kernel
theorem dX7_send_71 : decode cX7_send 71 = .ok (.goto 13, 3) := by decide +kernel
theorem dX7_send_74 : decode cX7_send 74 = .ok (.aload_n 0, 1) := by decide +kernel
theorem dX7_send_75 : decode cX7_send 75 = .ok (.aload_n 0, 1) := by decide +kernel
theorem dX7_send_76 : decode cX7_send 76 = .ok (.getfield 24, 3) := by decide +kernel
theorem dX7_send_79 : decode cX7_send 79 = .ok (.iload_n 1, 1) := by decide +kernel
theorem dX7_send_80 : decode cX7_send 80 = .ok (.iaload, 1) := by decide +kernel
theorem dX7_send_81 : decode cX7_send 81 = .ok (.invokevirtual 113, 3) := by decide +kernel
theorem dX7_send_84 : decode cX7_send 84 = .ok (.iastore, 1) := by decide +kernel
theorem dX7_send_85 : decode cX7_send 85 = .ok (.aload_n 0, 1) := by decide +kernel
theorem dX7_send_86 : decode cX7_send 86 = .ok (.getfield 75, 3) := by decide +kernel
theorem dX7_send_89 : decode cX7_send 89 = .ok (.aload_n 0, 1) := by decide +kernel
theorem dX7_send_90 : decode cX7_send 90 = .ok (.getfield 124, 3) := by decide +kernel
theorem dX7_send_93 : decode cX7_send 93 = .ok (.lload_n 3, 1) := by decide +kernel
theorem dX7_send_94 : decode cX7_send 94 = .ok (.lastore, 1) := by decide +kernel
theorem dX7_send_95 : decode cX7_send 95 = .ok (.aload_n 0, 1) := by decide +kernel
theorem dX7_send_96 : decode cX7_send 96 = .ok (.getfield 78, 3) := by decide +kernel
theorem dX7_send_99 : decode cX7_send 99 = .ok (.aload_n 0, 1) := by decide +kernel
theorem dX7_send_100 : decode cX7_send 100 = .ok (.getfield 124, 3) := by decide +kernel
theorem dX7_send_103 : decode cX7_send 103 = .ok (.iconst 0, 1) := by decide +kernel
theorem dX7_send_104 : decode cX7_send 104 = .ok (.bastore, 1) := by decide +kernel
theorem dX7_send_105 : decode cX7_send 105 = .ok (.aload_n 0, 1) := by decide +kernel
theorem dX7_send_106 : decode cX7_send 106 = .ok (.dup, 1) := by decide +kernel
theorem dX7_send_107 : decode cX7_send 107 = .ok (.getfield 124, 3) := by decide +kernel
theorem dX7_send_110 : decode cX7_send 110 = .ok (.iconst 1, 1) := by decide +kernel
theorem dX7_send_111 : decode cX7_send 111 = .ok (.iadd, 1) := by decide +kernel
theorem dX7_send_112 : decode cX7_send 112 = .ok (.putfield 124, 3) := by decide +kernel
theorem dX7_send_115 : decode cX7_send 115 = .ok (.return_, 1) := by decide +kernel
theorem dX7_newAsk_0 : decode cX7_newAsk 0 = .ok (.aload_n 0, 1) := by decide +kernel
theorem dX7_newAsk_1 : decode cX7_newAsk 1 = .ok (.getfield 106, 3) := by decide +kernel
theorem dX7_newAsk_4 : decode cX7_newAsk 4 = .ok (.istore 9, 2) := by decide +kernel
theorem dX7_newAsk_6 : decode cX7_newAsk 6 = .ok (.aload_n 0, 1) := by decide +kernel
theorem dX7_newAsk_7 : decode cX7_newAsk 7 = .ok (.dup, 1) := by decide +kernel
theorem dX7_newAsk_8 : decode cX7_newAsk 8 = .ok (.getfield 106, 3) := by decide +kernel
theorem dX7_newAsk_11 : decode cX7_newAsk 11 = .ok (.iconst 1, 1) := by decide +kernel
theorem dX7_newAsk_12 : decode cX7_newAsk 12 = .ok (.iadd, 1) := by decide +kernel
theorem dX7_newAsk_13 : decode cX7_newAsk 13 = .ok (.putfield 106, 3) := by decide +kernel
theorem dX7_newAsk_16 : decode cX7_newAsk 16 = .ok (.aload_n 0, 1) := by decide +kernel
theorem dX7_newAsk_17 : decode cX7_newAsk 17 = .ok (.getfield 24, 3) := by decide +kernel
theorem dX7_newAsk_20 : decode cX7_newAsk 20 = .ok (.iload 9, 2) := by decide +kernel
theorem dX7_newAsk_22 : decode cX7_newAsk 22 = .ok (.iload_n 1, 1) := by decide +kernel
theorem dX7_newAsk_23 : decode cX7_newAsk 23 = .ok (.iastore, 1) := by decide +kernel
theorem dX7_newAsk_24 : decode cX7_newAsk 24 = .ok (.aload_n 0, 1) := by decide +kernel
theorem dX7_newAsk_25 : decode cX7_newAsk 25 = .ok (.getfield 27, 3) := by decide +kernel
theorem dX7_newAsk_28 : decode cX7_newAsk 28 = .ok (.iload 9, 2) := by decide +kernel
theorem dX7_newAsk_30 : decode cX7_newAsk 30 = .ok (.aload_n 0, 1) := by decide +kernel
theorem dX7_newAsk_31 : decode cX7_newAsk 31 = .ok (.getfield 13, 3) := by decide +kernel
theorem dX7_newAsk_34 : decode cX7_newAsk 34 = .ok (.iload_n 1, 1) := by decide +kernel
theorem dX7_newAsk_35 : decode cX7_newAsk 35 = .ok (.iaload, 1) := by decide +kernel
theorem dX7_newAsk_36 : decode cX7_newAsk 36 = .ok (.iastore, 1) := by decide +kernel
theorem dX7_newAsk_37 : decode cX7_newAsk 37 = .ok (.aload_n 0, 1) := by decide +kernel
theorem dX7_newAsk_38 : decode cX7_newAsk 38 = .ok (.getfield 30, 3) := by decide +kernel
theorem dX7_newAsk_41 : decode cX7_newAsk 41 = .ok (.iload 9, 2) := by decide +kernel
theorem dX7_newAsk_43 : decode cX7_newAsk 43 = .ok (.aload_n 0, 1) := by decide +kernel
theorem dX7_newAsk_44 : decode cX7_newAsk 44 = .ok (.getfield 17, 3) := by decide +kernel
theorem dX7_newAsk_47 : decode cX7_newAsk 47 = .ok (.iload_n 1, 1) := by decide +kernel
theorem dX7_newAsk_48 : decode cX7_newAsk 48 = .ok (.iaload, 1) := by decide +kernel
theorem dX7_newAsk_49 : decode cX7_newAsk 49 = .ok (.iastore, 1) := by decide +kernel
theorem dX7_newAsk_50 : decode cX7_newAsk 50 = .ok (.aload_n 0, 1) := by decide +kernel
theorem dX7_newAsk_51 : decode cX7_newAsk 51 = .ok (.getfield 17, 3) := by decide +kernel
theorem dX7_newAsk_54 : decode cX7_newAsk 54 = .ok (.iload_n 1, 1) := by decide +kernel
theorem dX7_newAsk_55 : decode cX7_newAsk 55 = .ok (.dup2, 1) := by decide +kernel
theorem dX7_newAsk_56 : decode cX7_newAsk 56 = .ok (.iaload, 1) := by decide +kernel
theorem dX7_newAsk_57 : decode cX7_newAsk 57 = .ok (.iconst 1, 1) := by decide +kernel
theorem dX7_newAsk_58 : decode cX7_newAsk 58 = .ok (.iadd, 1) := by decide +kernel
theorem dX7_newAsk_59 : decode cX7_newAsk 59 = .ok (.iastore, 1) := by decide +kernel
theorem dX7_newAsk_60 : decode cX7_newAsk 60 = .ok (.aload_n 0, 1) := by decide +kernel
theorem dX7_newAsk_61 : decode cX7_newAsk 61 = .ok (.getfield 33, 3) := by decide +kernel
theorem dX7_newAsk_64 : decode cX7_newAsk 64 = .ok (.iload 9, 2) := by decide +kernel
theorem dX7_newAsk_66 : decode cX7_newAsk 66 = .ok (.iload_n 2, 1) := by decide +kernel
theorem dX7_newAsk_67 : decode cX7_newAsk 67 = .ok (.iastore, 1) := by decide +kernel
theorem dX7_newAsk_68 : decode cX7_newAsk 68 = .ok (.aload_n 0, 1) := by decide +kernel
theorem dX7_newAsk_69 : decode cX7_newAsk 69 = .ok (.getfield 36, 3) := by decide +kernel
theorem dX7_newAsk_72 : decode cX7_newAsk 72 = .ok (.iload 9, 2) := by decide +kernel
theorem dX7_newAsk_74 : decode cX7_newAsk 74 = .ok (.iload_n 3, 1) := by decide +kernel
theorem dX7_newAsk_75 : decode cX7_newAsk 75 = .ok (.iastore, 1) := by decide +kernel
theorem dX7_newAsk_76 : decode cX7_newAsk 76 = .ok (.aload_n 0, 1) := by decide +kernel
theorem dX7_newAsk_77 : decode cX7_newAsk 77 = .ok (.getfield 39, 3) := by decide +kernel
theorem dX7_newAsk_80 : decode cX7_newAsk 80 = .ok (.iload 9, 2) := by decide +kernel
theorem dX7_newAsk_82 : decode cX7_newAsk 82 = .ok (.iload 4, 2) := by decide +kernel
theorem dX7_newAsk_84 : decode cX7_newAsk 84 = .ok (.iastore, 1) := by decide +kernel
theorem dX7_newAsk_85 : decode cX7_newAsk 85 = .ok (.aload_n 0, 1) := by decide +kernel
theorem dX7_newAsk_86 : decode cX7_newAsk 86 = .ok (.getfield 42, 3) := by decide +kernel
theorem dX7_newAsk_89 : decode cX7_newAsk 89 = .ok (.iload 9, 2) := by decide +kernel
theorem dX7_newAsk_91 : decode cX7_newAsk 91 = .ok (.iload 5, 2) := by decide +kernel
theorem dX7_newAsk_93 : decode cX7_newAsk 93 = .ok (.iastore, 1) := by decide +kernel
theorem dX7_newAsk_94 : decode cX7_newAsk 94 = .ok (.aload_n 0, 1) := by decide +kernel
theorem dX7_newAsk_95 : decode cX7_newAsk 95 = .ok (.getfield 45, 3) := by decide +kernel
theorem dX7_newAsk_98 : decode cX7_newAsk 98 = .ok (.iload 9, 2) := by decide +kernel
theorem dX7_newAsk_100 : decode cX7_newAsk 100 = .ok (.iload 6, 2) := by decide +kernel
theorem dX7_newAsk_102 : decode cX7_newAsk 102 = .ok (.iastore, 1) := by decide +kernel
theorem dX7_newAsk_103 : decode cX7_newAsk 103 = .ok (.aload_n 0, 1) := by decide +kernel
theorem dX7_newAsk_104 : decode cX7_newAsk 104 = .ok (.getfield 48, 3) := by decide +kernel
theorem dX7_newAsk_107 : decode cX7_newAsk 107 = .ok (.iload 9, 2) := by decide +kernel
theorem dX7_newAsk_109 : decode cX7_newAsk 109 = .ok (.iload 7, 2) := by decide +kernel
theorem dX7_newAsk_111 : decode cX7_newAsk 111 = .ok (.iastore, 1) := by decide +kernel
theorem dX7_newAsk_112 : decode cX7_newAsk 112 = .ok (.aload_n 0, 1) := by decide +kernel
theorem dX7_newAsk_113 : decode cX7_newAsk 113 = .ok (.getfield 51, 3) := by decide +kernel
theorem dX7_newAsk_116 : decode cX7_newAsk 116 = .ok (.iload 9, 2) := by decide +kernel
theorem dX7_newAsk_118 : decode cX7_newAsk 118 = .ok (.iconst 0, 1) := by decide +kernel
theorem dX7_newAsk_119 : decode cX7_newAsk 119 = .ok (.iastore, 1) := by decide +kernel
theorem dX7_newAsk_120 : decode cX7_newAsk 120 = .ok (.aload_n 0, 1) := by decide +kernel
theorem dX7_newAsk_121 : decode cX7_newAsk 121 = .ok (.getfield 57, 3) := by decide +kernel
theorem dX7_newAsk_124 : decode cX7_newAsk 124 = .ok (.iload 9, 2) := by decide +kernel
theorem dX7_newAsk_126 : decode cX7_newAsk 126 = .ok (.iload 8, 2) := by decide +kernel
theorem dX7_newAsk_128 : decode cX7_newAsk 128 = .ok (.iastore, 1) := by decide +kernel
theorem dX7_newAsk_129 : decode cX7_newAsk 129 = .ok (.aload_n 0, 1) := by decide +kernel
theorem dX7_newAsk_130 : decode cX7_newAsk 130 = .ok (.getfield 60, 3) := by decide +kernel
theorem dX7_newAsk_133 : decode cX7_newAsk 133 = .ok (.iload 9, 2) := by decide +kernel
theorem dX7_newAsk_135 : decode cX7_newAsk 135 = .ok (.iconst (-1), 1) := by decide +kernel
theorem dX7_newAsk_136 : decode cX7_newAsk 136 = .ok (.iastore, 1) := by decide +kernel
theorem dX7_newAsk_137 : decode cX7_newAsk 137 = .ok (.iload 9, 2) := by decide +kernel
theorem dX7_newAsk_139 : decode cX7_newAsk 139 = .ok (.ireturn, 1) := by decide +kernel
theorem dX7_ask_0 : decode cX7_ask 0 = .ok (.iload_n 1, 1) := by decide +kernel
theorem dX7_ask_1 : decode cX7_ask 1 = .ok (.i2l, 1) := by decide +kernel
theorem dX7_ask_2 : decode cX7_ask 2 = .ok (.lconst 0, 1) := by decide +kernel
theorem dX7_ask_3 : decode cX7_ask 3 = .ok (.ldc2_w 130, 3) := by decide +kernel
theorem dX7_ask_6 : decode cX7_ask 6 = .ok (.invokestatic 109, 3) := by decide +kernel
theorem dX7_ask_9 : decode cX7_ask 9 = .ok (.ifCond .eq 81, 3) := by decide +kernel
theorem dX7_ask_12 : decode cX7_ask 12 = .ok (.iload_n 2, 1) := by decide +kernel
theorem dX7_ask_13 : decode cX7_ask 13 = .ok (.i2l, 1) := by decide +kernel
theorem dX7_ask_14 : decode cX7_ask 14 = .ok (.lconst 0, 1) := by decide +kernel
theorem dX7_ask_15 : decode cX7_ask 15 = .ok (.ldc2_w 132, 3) := by decide +kernel
theorem dX7_ask_18 : decode cX7_ask 18 = .ok (.invokestatic 109, 3) := by decide +kernel
theorem dX7_ask_21 : decode cX7_ask 21 = .ok (.ifCond .eq 69, 3) := by decide +kernel
theorem dX7_ask_24 : decode cX7_ask 24 = .ok (.iload_n 3, 1) := by decide +kernel
theorem dX7_ask_25 : decode cX7_ask 25 = .ok (.i2l, 1) := by decide +kernel
theorem dX7_ask_26 : decode cX7_ask 26 = .ok (.lconst 0, 1) := by decide +kernel
theorem dX7_ask_27 : decode cX7_ask 27 = .ok (.ldc2_w 134, 3) := by decide +kernel
theorem dX7_ask_30 : decode cX7_ask 30 = .ok (.invokestatic 109, 3) := by decide +kernel
theorem dX7_ask_33 : decode cX7_ask 33 = .ok (.ifCond .eq 57, 3) := by decide +kernel
theorem dX7_ask_36 : decode cX7_ask 36 = .ok (.iload 4, 2) := by decide +kernel
theorem dX7_ask_38 : decode cX7_ask 38 = .ok (.i2l, 1) := by decide +kernel
theorem dX7_ask_39 : decode cX7_ask 39 = .ok (.lconst 0, 1) := by decide +kernel
theorem dX7_ask_40 : decode cX7_ask 40 = .ok (.ldc2_w 130, 3) := by decide +kernel
theorem dX7_ask_43 : decode cX7_ask 43 = .ok (.invokestatic 109, 3) := by decide +kernel
theorem dX7_ask_46 : decode cX7_ask 46 = .ok (.ifCond .eq 44, 3) := by decide +kernel
theorem dX7_ask_49 : decode cX7_ask 49 = .ok (.iload 5, 2) := by decide +kernel
theorem dX7_ask_51 : decode cX7_ask 51 = .ok (.i2l, 1) := by decide +kernel
theorem dX7_ask_52 : decode cX7_ask 52 = .ok (.lconst 0, 1) := by decide +kernel
theorem dX7_ask_53 : decode cX7_ask 53 = .ok (.ldc2_w 130, 3) := by decide +kernel
theorem dX7_ask_56 : decode cX7_ask 56 = .ok (.invokestatic 109, 3) := by decide +kernel
theorem dX7_ask_59 : decode cX7_ask 59 = .ok (.ifCond .eq 31, 3) := by decide +kernel
theorem dX7_ask_62 : decode cX7_ask 62 = .ok (.iload 6, 2) := by decide +kernel
theorem dX7_ask_64 : decode cX7_ask 64 = .ok (.i2l, 1) := by decide +kernel
theorem dX7_ask_65 : decode cX7_ask 65 = .ok (.lconst 0, 1) := by decide +kernel
theorem dX7_ask_66 : decode cX7_ask 66 = .ok (.ldc2_w 132, 3) := by decide +kernel
theorem dX7_ask_69 : decode cX7_ask 69 = .ok (.invokestatic 109, 3) := by decide +kernel
theorem dX7_ask_72 : decode cX7_ask 72 = .ok (.ifCond .eq 18, 3) := by decide +kernel
theorem dX7_ask_75 : decode cX7_ask 75 = .ok (.iload 7, 2) := by decide +kernel
theorem dX7_ask_77 : decode cX7_ask 77 = .ok (.i2l, 1) := by decide +kernel
theorem dX7_ask_78 : decode cX7_ask 78 = .ok (.ldc2_w 136, 3) := by decide +kernel
theorem dX7_ask_81 : decode cX7_ask 81 = .ok (.ldc2_w 138, 3) := by decide +kernel
theorem dX7_ask_84 : decode cX7_ask 84 = .ok (.invokestatic 109, 3) := by decide +kernel
theorem dX7_ask_87 : decode cX7_ask 87 = .ok (.ifCond .ne 6, 3) := by decide +kernel
theorem dX7_ask_90 : decode cX7_ask 90 = .ok (.ldc 140, 2) := by decide +kernel
theorem dX7_ask_92 : decode cX7_ask 92 = .ok (.ireturn, 1) := by decide +kernel
theorem dX7_ask_93 : decode cX7_ask 93 = .ok (.iload_n 3, 1) := by decide +kernel
theorem dX7_ask_94 : decode cX7_ask 94 = .ok (.iconst 2, 1) := by decide +kernel
theorem dX7_ask_95 : decode cX7_ask 95 = .ok (.if_icmp .eq 8, 3) := by decide +kernel
theorem dX7_ask_98 : decode cX7_ask 98 = .ok (.iload_n 3, 1) := by decide +kernel
theorem dX7_ask_99 : decode cX7_ask 99 = .ok (.iconst 3, 1) := by decide +kernel
theorem dX7_ask_100 : decode cX7_ask 100 = .ok (.if_icmp .ne 8, 3) := by decide +kernel
theorem dX7_ask_103 : decode cX7_ask 103 = .ok (.iload 7, 2) := by decide +kernel
theorem dX7_ask_105 : decode cX7_ask 105 = .ok (.ifCond .lt 14, 3) := by decide +kernel
theorem dX7_ask_108 : decode cX7_ask 108 = .ok (.iload_n 3, 1) := by decide +kernel
theorem dX7_ask_109 : decode cX7_ask 109 = .ok (.iconst 4, 1) := by decide +kernel
theorem dX7_ask_110 : decode cX7_ask 110 = .ok (.if_icmp .ne 12, 3) := by decide +kernel
theorem dX7_ask_113 : decode cX7_ask 113 = .ok (.iload 7, 2) := by decide +kernel
theorem dX7_ask_115 : decode cX7_ask 115 = .ok (.iconst 1, 1) := by decide +kernel
theorem dX7_ask_116 : decode cX7_ask 116 = .ok (.if_icmp .ge 6, 3) := by decide +kernel
theorem dX7_ask_119 : decode cX7_ask 119 = .ok (.ldc 140, 2) := by decide +kernel
theorem dX7_ask_121 : decode cX7_ask 121 = .ok (.ireturn, 1) := by decide +kernel
theorem dX7_ask_122 : decode cX7_ask 122 = .ok (.aload_n 0, 1) := by decide +kernel
theorem dX7_ask_123 : decode cX7_ask 123 = .ok (.getfield 7, 3) := by decide +kernel
theorem dX7_ask_126 : decode cX7_ask 126 = .ok (.iload_n 1, 1) := by decide +kernel
theorem dX7_ask_127 : decode cX7_ask 127 = .ok (.baload, 1) := by decide +kernel
theorem dX7_ask_128 : decode cX7_ask 128 = .ok (.ifCond .eq 6, 3) := by decide +kernel
theorem dX7_ask_131 : decode cX7_ask 131 = .ok (.ldc 141, 2) := by decide +kernel
theorem dX7_ask_133 : decode cX7_ask 133 = .ok (.ireturn, 1) := by decide +kernel
theorem dX7_ask_134 : decode cX7_ask 134 = .ok (.aload_n 0, 1) := by decide +kernel
theorem dX7_ask_135 : decode cX7_ask 135 = .ok (.getfield 106, 3) := by decide +kernel
theorem dX7_ask_138 : decode cX7_ask 138 = .ok (.sipush 300, 3) := by decide +kernel
theorem dX7_ask_141 : decode cX7_ask 141 = .ok (.if_icmp .eq 11, 3) := by decide +kernel
theorem dX7_ask_144 : decode cX7_ask 144 = .ok (.aload_n 0, 1) := by decide +kernel
theorem dX7_ask_145 : decode cX7_ask 145 = .ok (.iload_n 1, 1) := by decide +kernel
theorem dX7_ask_146 : decode cX7_ask 146 = .ok (.invokevirtual 142, 3) := by decide +kernel
theorem dX7_ask_149 : decode cX7_ask 149 = .ok (.ifCond .eq 6, 3) := by decide +kernel
theorem dX7_ask_152 : decode cX7_ask 152 = .ok (.ldc 146, 2) := by decide +kernel
theorem dX7_ask_154 : decode cX7_ask 154 = .ok (.ireturn, 1) := by decide +kernel
theorem dX7_ask_155 : decode cX7_ask 155 = .ok (.aload_n 0, 1) := by decide +kernel
theorem dX7_ask_156 : decode cX7_ask 156 = .ok (.iload_n 1, 1) := by decide +kernel
theorem dX7_ask_157 : decode cX7_ask 157 = .ok (.iload_n 2, 1) := by decide +kernel
theorem dX7_ask_158 : decode cX7_ask 158 = .ok (.iload_n 3, 1) := by decide +kernel
theorem dX7_ask_159 : decode cX7_ask 159 = .ok (.iload 4, 2) := by decide +kernel
theorem dX7_ask_161 : decode cX7_ask 161 = .ok (.iload 5, 2) := by decide +kernel
theorem dX7_ask_163 : decode cX7_ask 163 = .ok (.iload 6, 2) := by decide +kernel
theorem dX7_ask_165 : decode cX7_ask 165 = .ok (.iload 7, 2) := by decide +kernel
theorem dX7_ask_167 : decode cX7_ask 167 = .ok (.iconst (-1), 1) := by decide +kernel
theorem dX7_ask_168 : decode cX7_ask 168 = .ok (.invokevirtual 147, 3) := by decide +kernel
theorem dX7_ask_171 : decode cX7_ask 171 = .ok (.istore 8, 2) := by decide +kernel
theorem dX7_ask_173 : decode cX7_ask 173 = .ok (.aload_n 0, 1) := by decide +kernel
theorem dX7_ask_174 : decode cX7_ask 174 = .ok (.iload 8, 2) := by decide +kernel
theorem dX7_ask_176 : decode cX7_ask 176 = .ok (.iconst 0, 1) := by decide +kernel
theorem dX7_ask_177 : decode cX7_ask 177 = .ok (.lconst 0, 1) := by decide +kernel
theorem dX7_ask_178 : decode cX7_ask 178 = .ok (.invokevirtual 151, 3) := by decide +kernel
theorem dX7_ask_181 : decode cX7_ask 181 = .ok (.iload 8, 2) := by decide +kernel
theorem dX7_ask_183 : decode cX7_ask 183 = .ok (.ireturn, 1) := by decide +kernel
theorem dX7_again_0 : decode cX7_again 0 = .ok (.aload_n 0, 1) := by decide +kernel
theorem dX7_again_1 : decode cX7_again 1 = .ok (.iload_n 1, 1) := by decide +kernel
theorem dX7_again_2 : decode cX7_again 2 = .ok (.invokevirtual 155, 3) := by decide +kernel
theorem dX7_again_5 : decode cX7_again 5 = .ok (.ifCond .ne 6, 3) := by decide +kernel
theorem dX7_again_8 : decode cX7_again 8 = .ok (.ldc 140, 2) := by decide +kernel
theorem dX7_again_10 : decode cX7_again 10 = .ok (.ireturn, 1) := by decide +kernel
theorem dX7_again_11 : decode cX7_again 11 = .ok (.aload_n 0, 1) := by decide +kernel
theorem dX7_again_12 : decode cX7_again 12 = .ok (.getfield 51, 3) := by decide +kernel
theorem dX7_again_15 : decode cX7_again 15 = .ok (.iload_n 1, 1) := by decide +kernel
theorem dX7_again_16 : decode cX7_again 16 = .ok (.iaload, 1) := by decide +kernel
theorem dX7_again_17 : decode cX7_again 17 = .ok (.ifCond .ne 17, 3) := by decide +kernel
theorem dX7_again_20 : decode cX7_again 20 = .ok (.aload_n 0, 1) := by decide +kernel
theorem dX7_again_21 : decode cX7_again 21 = .ok (.getfield 7, 3) := by decide +kernel
theorem dX7_again_24 : decode cX7_again 24 = .ok (.aload_n 0, 1) := by decide +kernel
theorem dX7_again_25 : decode cX7_again 25 = .ok (.getfield 24, 3) := by decide +kernel
theorem dX7_again_28 : decode cX7_again 28 = .ok (.iload_n 1, 1) := by decide +kernel
theorem dX7_again_29 : decode cX7_again 29 = .ok (.iaload, 1) := by decide +kernel
theorem dX7_again_30 : decode cX7_again 30 = .ok (.baload, 1) := by decide +kernel
theorem dX7_again_31 : decode cX7_again 31 = .ok (.ifCond .eq 6, 3) := by decide +kernel
theorem dX7_again_34 : decode cX7_again 34 = .ok (.ldc 141, 2) := by decide +kernel
theorem dX7_again_36 : decode cX7_again 36 = .ok (.ireturn, 1) := by decide +kernel
theorem dX7_again_37 : decode cX7_again 37 = .ok (.aload_n 0, 1) := by decide +kernel
theorem dX7_again_38 : decode cX7_again 38 = .ok (.getfield 124, 3) := by decide +kernel
theorem dX7_again_41 : decode cX7_again 41 = .ok (.bipush 120, 2) := by decide +kernel
theorem dX7_again_43 : decode cX7_again 43 = .ok (.if_icmp .ne 6, 3) := by decide +kernel
theorem dX7_again_46 : decode cX7_again 46 = .ok (.ldc 146, 2) := by decide +kernel
theorem dX7_again_48 : decode cX7_again 48 = .ok (.ireturn, 1) := by decide +kernel
theorem dX7_again_49 : decode cX7_again 49 = .ok (.aload_n 0, 1) := by decide +kernel
theorem dX7_again_50 : decode cX7_again 50 = .ok (.iload_n 1, 1) := by decide +kernel
theorem dX7_again_51 : decode cX7_again 51 = .ok (.iconst 0, 1) := by decide +kernel
theorem dX7_again_52 : decode cX7_again 52 = .ok (.lconst 0, 1) := by decide +kernel
theorem dX7_again_53 : decode cX7_again 53 = .ok (.invokevirtual 151, 3) := by decide +kernel
theorem dX7_again_56 : decode cX7_again 56 = .ok (.aload_n 0, 1) := by decide +kernel
theorem dX7_again_57 : decode cX7_again 57 = .ok (.getfield 124, 3) := by decide +kernel
theorem dX7_again_60 : decode cX7_again 60 = .ok (.ireturn, 1) := by decide +kernel
theorem dX7_told_0 : decode cX7_told 0 = .ok (.aload_n 0, 1) := by decide +kernel
theorem dX7_told_1 : decode cX7_told 1 = .ok (.iload_n 1, 1) := by decide +kernel
theorem dX7_told_2 : decode cX7_told 2 = .ok (.invokevirtual 155, 3) := by decide +kernel
theorem dX7_told_5 : decode cX7_told 5 = .ok (.ifCond .ne 6, 3) := by decide +kernel
theorem dX7_told_8 : decode cX7_told 8 = .ok (.ldc 140, 2) := by decide +kernel
theorem dX7_told_10 : decode cX7_told 10 = .ok (.ireturn, 1) := by decide +kernel
theorem dX7_told_11 : decode cX7_told 11 = .ok (.iload_n 2, 1) := by decide +kernel
theorem dX7_told_12 : decode cX7_told 12 = .ok (.tableswitch 104 0 7 #[48, 55, 62, 69, 76, 83, 90, 97], 48) := by decide +kernel
theorem dX7_told_60 : decode cX7_told 60 = .ok (.aload_n 0, 1) := by decide +kernel
theorem dX7_told_61 : decode cX7_told 61 = .ok (.getfield 24, 3) := by decide +kernel
theorem dX7_told_64 : decode cX7_told 64 = .ok (.iload_n 1, 1) := by decide +kernel
theorem dX7_told_65 : decode cX7_told 65 = .ok (.iaload, 1) := by decide +kernel
theorem dX7_told_66 : decode cX7_told 66 = .ok (.ireturn, 1) := by decide +kernel
theorem dX7_told_67 : decode cX7_told 67 = .ok (.aload_n 0, 1) := by decide +kernel
theorem dX7_told_68 : decode cX7_told 68 = .ok (.getfield 27, 3) := by decide +kernel
theorem dX7_told_71 : decode cX7_told 71 = .ok (.iload_n 1, 1) := by decide +kernel
theorem dX7_told_72 : decode cX7_told 72 = .ok (.iaload, 1) := by decide +kernel
theorem dX7_told_73 : decode cX7_told 73 = .ok (.ireturn, 1) := by decide +kernel
theorem dX7_told_74 : decode cX7_told 74 = .ok (.aload_n 0, 1) := by decide +kernel
theorem dX7_told_75 : decode cX7_told 75 = .ok (.getfield 30, 3) := by decide +kernel
theorem dX7_told_78 : decode cX7_told 78 = .ok (.iload_n 1, 1) := by decide +kernel
theorem dX7_told_79 : decode cX7_told 79 = .ok (.iaload, 1) := by decide +kernel
theorem dX7_told_80 : decode cX7_told 80 = .ok (.ireturn, 1) := by decide +kernel
theorem dX7_told_81 : decode cX7_told 81 = .ok (.aload_n 0, 1) := by decide +kernel
theorem dX7_told_82 : decode cX7_told 82 = .ok (.getfield 33, 3) := by decide +kernel
theorem dX7_told_85 : decode cX7_told 85 = .ok (.iload_n 1, 1) := by decide +kernel
theorem dX7_told_86 : decode cX7_told 86 = .ok (.iaload, 1) := by decide +kernel
theorem dX7_told_87 : decode cX7_told 87 = .ok (.ireturn, 1) := by decide +kernel
theorem dX7_told_88 : decode cX7_told 88 = .ok (.aload_n 0, 1) := by decide +kernel
theorem dX7_told_89 : decode cX7_told 89 = .ok (.getfield 36, 3) := by decide +kernel
theorem dX7_told_92 : decode cX7_told 92 = .ok (.iload_n 1, 1) := by decide +kernel
theorem dX7_told_93 : decode cX7_told 93 = .ok (.iaload, 1) := by decide +kernel
theorem dX7_told_94 : decode cX7_told 94 = .ok (.ireturn, 1) := by decide +kernel
theorem dX7_told_95 : decode cX7_told 95 = .ok (.aload_n 0, 1) := by decide +kernel
theorem dX7_told_96 : decode cX7_told 96 = .ok (.getfield 51, 3) := by decide +kernel
theorem dX7_told_99 : decode cX7_told 99 = .ok (.iload_n 1, 1) := by decide +kernel
theorem dX7_told_100 : decode cX7_told 100 = .ok (.iaload, 1) := by decide +kernel
theorem dX7_told_101 : decode cX7_told 101 = .ok (.ireturn, 1) := by decide +kernel
theorem dX7_told_102 : decode cX7_told 102 = .ok (.aload_n 0, 1) := by decide +kernel
theorem dX7_told_103 : decode cX7_told 103 = .ok (.getfield 57, 3) := by decide +kernel
theorem dX7_told_106 : decode cX7_told 106 = .ok (.iload_n 1, 1) := by decide +kernel
theorem dX7_told_107 : decode cX7_told 107 = .ok (.iaload, 1) := by decide +kernel
theorem dX7_told_108 : decode cX7_told 108 = .ok (.ireturn, 1) := by decide +kernel
theorem dX7_told_109 : decode cX7_told 109 = .ok (.aload_n 0, 1) := by decide +kernel
theorem dX7_told_110 : decode cX7_told 110 = .ok (.getfield 60, 3) := by decide +kernel
theorem dX7_told_113 : decode cX7_told 113 = .ok (.iload_n 1, 1) := by decide +kernel
theorem dX7_told_114 : decode cX7_told 114 = .ok (.iaload, 1) := by decide +kernel
theorem dX7_told_115 : decode cX7_told 115 = .ok (.ireturn, 1) := by decide +kernel
theorem dX7_told_116 : decode cX7_told 116 = .ok (.ldc 140, 2) := by decide +kernel
theorem dX7_told_118 : decode cX7_told 118 = .ok (.ireturn, 1) := by decide +kernel
theorem dX7_answer_0 : decode cX7_answer 0 = .ok (.aload_n 0, 1) := by decide +kernel
theorem dX7_answer_1 : decode cX7_answer 1 = .ok (.iload_n 1, 1) := by decide +kernel
theorem dX7_answer_2 : decode cX7_answer 2 = .ok (.invokevirtual 155, 3) := by decide +kernel
theorem dX7_answer_5 : decode cX7_answer 5 = .ok (.ifCond .ne 9, 3) := by decide +kernel
theorem dX7_answer_8 : decode cX7_answer 8 = .ok (.ldc2_w 158, 3) := by decide +kernel
theorem dX7_answer_11 : decode cX7_answer 11 = .ok (.goto 25, 3) := by decide +kernel
theorem dX7_answer_14 : decode cX7_answer 14 = .ok (.aload_n 0, 1) := by decide +kernel
theorem dX7_answer_15 : decode cX7_answer 15 = .ok (.getfield 51, 3) := by decide +kernel
theorem dX7_answer_18 : decode cX7_answer 18 = .ok (.iload_n 1, 1) := by decide +kernel
theorem dX7_answer_19 : decode cX7_answer 19 = .ok (.iaload, 1) := by decide +kernel
theorem dX7_answer_20 : decode cX7_answer 20 = .ok (.iconst 1, 1) := by decide +kernel
theorem dX7_answer_21 : decode cX7_answer 21 = .ok (.if_icmp .eq 9, 3) := by decide +kernel
theorem dX7_answer_24 : decode cX7_answer 24 = .ok (.ldc2_w 160, 3) := by decide +kernel
theorem dX7_answer_27 : decode cX7_answer 27 = .ok (.goto 9, 3) := by decide +kernel
theorem dX7_answer_30 : decode cX7_answer 30 = .ok (.aload_n 0, 1) := by decide +kernel
theorem dX7_answer_31 : decode cX7_answer 31 = .ok (.getfield 54, 3) := by decide +kernel
theorem dX7_answer_34 : decode cX7_answer 34 = .ok (.iload_n 1, 1) := by decide +kernel
theorem dX7_answer_35 : decode cX7_answer 35 = .ok (.laload, 1) := by decide +kernel
theorem dX7_answer_36 : decode cX7_answer 36 = .ok (.lreturn, 1) := by decide +kernel
theorem dX7_name_0 : decode cX7_name 0 = .ok (.iload_n 1, 1) := by decide +kernel
theorem dX7_name_1 : decode cX7_name 1 = .ok (.i2l, 1) := by decide +kernel
theorem dX7_name_2 : decode cX7_name 2 = .ok (.lconst 0, 1) := by decide +kernel
theorem dX7_name_3 : decode cX7_name 3 = .ok (.ldc2_w 162, 3) := by decide +kernel
theorem dX7_name_6 : decode cX7_name 6 = .ok (.invokestatic 109, 3) := by decide +kernel
theorem dX7_name_9 : decode cX7_name 9 = .ok (.ifCond .eq 15, 3) := by decide +kernel
theorem dX7_name_12 : decode cX7_name 12 = .ok (.iload_n 2, 1) := by decide +kernel
theorem dX7_name_13 : decode cX7_name 13 = .ok (.i2l, 1) := by decide +kernel
theorem dX7_name_14 : decode cX7_name 14 = .ok (.lconst 0, 1) := by decide +kernel
theorem dX7_name_15 : decode cX7_name 15 = .ok (.ldc2_w 164, 3) := by decide +kernel
theorem dX7_name_18 : decode cX7_name 18 = .ok (.invokestatic 109, 3) := by decide +kernel
theorem dX7_name_21 : decode cX7_name 21 = .ok (.ifCond .ne 6, 3) := by decide +kernel
theorem dX7_name_24 : decode cX7_name 24 = .ok (.ldc 140, 2) := by decide +kernel
theorem dX7_name_26 : decode cX7_name 26 = .ok (.ireturn, 1) := by decide +kernel
theorem dX7_name_27 : decode cX7_name 27 = .ok (.iload_n 2, 1) := by decide +kernel
theorem dX7_name_28 : decode cX7_name 28 = .ok (.ifCond .ne 11, 3) := by decide +kernel
theorem dX7_name_31 : decode cX7_name 31 = .ok (.aload_n 0, 1) := by decide +kernel
theorem dX7_name_32 : decode cX7_name 32 = .ok (.iload_n 1, 1) := by decide +kernel
theorem dX7_name_33 : decode cX7_name 33 = .ok (.invokevirtual 113, 3) := by decide +kernel
theorem dX7_name_36 : decode cX7_name 36 = .ok (.goto 23, 3) := by decide +kernel
theorem dX7_name_39 : decode cX7_name 39 = .ok (.iload_n 2, 1) := by decide +kernel
theorem dX7_name_40 : decode cX7_name 40 = .ok (.iconst 1, 1) := by decide +kernel
theorem dX7_name_41 : decode cX7_name 41 = .ok (.if_icmp .ne 12, 3) := by decide +kernel
theorem dX7_name_44 : decode cX7_name 44 = .ok (.aload_n 0, 1) := by decide +kernel
theorem dX7_name_45 : decode cX7_name 45 = .ok (.getfield 13, 3) := by decide +kernel
theorem dX7_name_48 : decode cX7_name 48 = .ok (.iload_n 1, 1) := by decide +kernel
theorem dX7_name_49 : decode cX7_name 49 = .ok (.iaload, 1) := by decide +kernel
theorem dX7_name_50 : decode cX7_name 50 = .ok (.goto 9, 3) := by decide +kernel
theorem dX7_name_53 : decode cX7_name 53 = .ok (.aload_n 0, 1) := by decide +kernel
theorem dX7_name_54 : decode cX7_name 54 = .ok (.getfield 17, 3) := by decide +kernel
theorem dX7_name_57 : decode cX7_name 57 = .ok (.iload_n 1, 1) := by decide +kernel
theorem dX7_name_58 : decode cX7_name 58 = .ok (.iaload, 1) := by decide +kernel
theorem dX7_name_59 : decode cX7_name 59 = .ok (.ireturn, 1) := by decide +kernel
theorem dX7_findRecord_0 : decode cX7_findRecord 0 = .ok (.iconst 0, 1) := by decide +kernel
theorem dX7_findRecord_1 : decode cX7_findRecord 1 = .ok (.istore_n 3, 1) := by decide +kernel
theorem dX7_findRecord_2 : decode cX7_findRecord 2 = .ok (.iload_n 3, 1) := by decide +kernel
theorem dX7_findRecord_3 : decode cX7_findRecord 3 = .ok (.aload_n 0, 1) := by decide +kernel
theorem dX7_findRecord_4 : decode cX7_findRecord 4 = .ok (.getfield 166, 3) := by decide +kernel
theorem dX7_findRecord_7 : decode cX7_findRecord 7 = .ok (.if_icmp .ge 31, 3) := by decide +kernel
theorem dX7_findRecord_10 : decode cX7_findRecord 10 = .ok (.aload_n 0, 1) := by decide +kernel
theorem dX7_findRecord_11 : decode cX7_findRecord 11 = .ok (.getfield 87, 3) := by decide +kernel
theorem dX7_findRecord_14 : decode cX7_findRecord 14 = .ok (.iload_n 3, 1) := by decide +kernel
theorem dX7_findRecord_15 : decode cX7_findRecord 15 = .ok (.iaload, 1) := by decide +kernel
theorem dX7_findRecord_16 : decode cX7_findRecord 16 = .ok (.iload_n 1, 1) := by decide +kernel
theorem dX7_findRecord_17 : decode cX7_findRecord 17 = .ok (.if_icmp .ne 15, 3) := by decide +kernel
theorem dX7_findRecord_20 : decode cX7_findRecord 20 = .ok (.aload_n 0, 1) := by decide +kernel
theorem dX7_findRecord_21 : decode cX7_findRecord 21 = .ok (.getfield 90, 3) := by decide +kernel
theorem dX7_findRecord_24 : decode cX7_findRecord 24 = .ok (.iload_n 3, 1) := by decide +kernel
theorem dX7_findRecord_25 : decode cX7_findRecord 25 = .ok (.iaload, 1) := by decide +kernel
theorem dX7_findRecord_26 : decode cX7_findRecord 26 = .ok (.iload_n 2, 1) := by decide +kernel
theorem dX7_findRecord_27 : decode cX7_findRecord 27 = .ok (.if_icmp .ne 5, 3) := by decide +kernel
theorem dX7_findRecord_30 : decode cX7_findRecord 30 = .ok (.iload_n 3, 1) := by decide +kernel
theorem dX7_findRecord_31 : decode cX7_findRecord 31 = .ok (.ireturn, 1) := by decide +kernel
theorem dX7_findRecord_32 : decode cX7_findRecord 32 = .ok (.iinc 3 1, 3) := by decide +kernel
theorem dX7_findRecord_35 : decode cX7_findRecord 35 = .ok (.goto (-33), 3) := by decide +kernel
theorem dX7_findRecord_38 : decode cX7_findRecord 38 = .ok (.iconst (-1), 1) := by decide +kernel
theorem dX7_findRecord_39 : decode cX7_findRecord 39 = .ok (.ireturn, 1) := by decide +kernel
theorem dX7_putRecord_0 : decode cX7_putRecord 0 = .ok (.aload_n 0, 1) := by decide +kernel
theorem dX7_putRecord_1 : decode cX7_putRecord 1 = .ok (.iload_n 1, 1) := by decide +kernel
theorem dX7_putRecord_2 : decode cX7_putRecord 2 = .ok (.iload_n 2, 1) := by decide +kernel
theorem dX7_putRecord_3 : decode cX7_putRecord 3 = .ok (.invokevirtual 169, 3) := by decide +kernel
theorem dX7_putRecord_6 : decode cX7_putRecord 6 = .ok (.istore 7, 2) := by decide +kernel
theorem dX7_putRecord_8 : decode cX7_putRecord 8 = .ok (.iload 7, 2) := by decide +kernel
theorem dX7_putRecord_10 : decode cX7_putRecord 10 = .ok (.ifCond .ge 19, 3) := by decide +kernel
theorem dX7_putRecord_13 : decode cX7_putRecord 13 = .ok (.aload_n 0, 1) := by decide +kernel
theorem dX7_putRecord_14 : decode cX7_putRecord 14 = .ok (.getfield 166, 3) := by decide +kernel
theorem dX7_putRecord_17 : decode cX7_putRecord 17 = .ok (.istore 7, 2) := by decide +kernel
theorem dX7_putRecord_19 : decode cX7_putRecord 19 = .ok (.aload_n 0, 1) := by decide +kernel
theorem dX7_putRecord_20 : decode cX7_putRecord 20 = .ok (.dup, 1) := by decide +kernel
theorem dX7_putRecord_21 : decode cX7_putRecord 21 = .ok (.getfield 166, 3) := by decide +kernel
theorem dX7_putRecord_24 : decode cX7_putRecord 24 = .ok (.iconst 1, 1) := by decide +kernel
theorem dX7_putRecord_25 : decode cX7_putRecord 25 = .ok (.iadd, 1) := by decide +kernel
theorem dX7_putRecord_26 : decode cX7_putRecord 26 = .ok (.putfield 166, 3) := by decide +kernel
theorem dX7_putRecord_29 : decode cX7_putRecord 29 = .ok (.aload_n 0, 1) := by decide +kernel
theorem dX7_putRecord_30 : decode cX7_putRecord 30 = .ok (.getfield 87, 3) := by decide +kernel
theorem dX7_putRecord_33 : decode cX7_putRecord 33 = .ok (.iload 7, 2) := by decide +kernel
theorem dX7_putRecord_35 : decode cX7_putRecord 35 = .ok (.iload_n 1, 1) := by decide +kernel
theorem dX7_putRecord_36 : decode cX7_putRecord 36 = .ok (.iastore, 1) := by decide +kernel
theorem dX7_putRecord_37 : decode cX7_putRecord 37 = .ok (.aload_n 0, 1) := by decide +kernel
theorem dX7_putRecord_38 : decode cX7_putRecord 38 = .ok (.getfield 90, 3) := by decide +kernel
theorem dX7_putRecord_41 : decode cX7_putRecord 41 = .ok (.iload 7, 2) := by decide +kernel
theorem dX7_putRecord_43 : decode cX7_putRecord 43 = .ok (.iload_n 2, 1) := by decide +kernel
theorem dX7_putRecord_44 : decode cX7_putRecord 44 = .ok (.iastore, 1) := by decide +kernel
theorem dX7_putRecord_45 : decode cX7_putRecord 45 = .ok (.aload_n 0, 1) := by decide +kernel
theorem dX7_putRecord_46 : decode cX7_putRecord 46 = .ok (.getfield 93, 3) := by decide +kernel
theorem dX7_putRecord_49 : decode cX7_putRecord 49 = .ok (.iload 7, 2) := by decide +kernel
theorem dX7_putRecord_51 : decode cX7_putRecord 51 = .ok (.iload_n 3, 1) := by decide +kernel
theorem dX7_putRecord_52 : decode cX7_putRecord 52 = .ok (.iastore, 1) := by decide +kernel
theorem dX7_putRecord_53 : decode cX7_putRecord 53 = .ok (.aload_n 0, 1) := by decide +kernel
theorem dX7_putRecord_54 : decode cX7_putRecord 54 = .ok (.getfield 96, 3) := by decide +kernel
theorem dX7_putRecord_57 : decode cX7_putRecord 57 = .ok (.iload 7, 2) := by decide +kernel
theorem dX7_putRecord_59 : decode cX7_putRecord 59 = .ok (.lload 4, 2) := by decide +kernel
theorem dX7_putRecord_61 : decode cX7_putRecord 61 = .ok (.lastore, 1) := by decide +kernel
theorem dX7_putRecord_62 : decode cX7_putRecord 62 = .ok (.aload_n 0, 1) := by decide +kernel
theorem dX7_putRecord_63 : decode cX7_putRecord 63 = .ok (.getfield 99, 3) := by decide +kernel
theorem dX7_putRecord_66 : decode cX7_putRecord 66 = .ok (.iload 7, 2) := by decide +kernel
theorem dX7_putRecord_68 : decode cX7_putRecord 68 = .ok (.iload 6, 2) := by decide +kernel
theorem dX7_putRecord_70 : decode cX7_putRecord 70 = .ok (.iastore, 1) := by decide +kernel
theorem dX7_putRecord_71 : decode cX7_putRecord 71 = .ok (.return_, 1) := by decide +kernel
theorem dX7_forget_0 : decode cX7_forget 0 = .ok (.iconst 0, 1) := by decide +kernel
theorem dX7_forget_1 : decode cX7_forget 1 = .ok (.istore_n 3, 1) := by decide +kernel
theorem dX7_forget_2 : decode cX7_forget 2 = .ok (.iconst 0, 1) := by decide +kernel
theorem dX7_forget_3 : decode cX7_forget 3 = .ok (.istore 4, 2) := by decide +kernel
theorem dX7_forget_5 : decode cX7_forget 5 = .ok (.iload 4, 2) := by decide +kernel
theorem dX7_forget_7 : decode cX7_forget 7 = .ok (.aload_n 0, 1) := by decide +kernel
theorem dX7_forget_8 : decode cX7_forget 8 = .ok (.getfield 166, 3) := by decide +kernel
theorem dX7_forget_11 : decode cX7_forget 11 = .ok (.if_icmp .ge 99, 3) := by decide +kernel
theorem dX7_forget_14 : decode cX7_forget 14 = .ok (.aload_n 0, 1) := by decide +kernel
theorem dX7_forget_15 : decode cX7_forget 15 = .ok (.getfield 87, 3) := by decide +kernel
theorem dX7_forget_18 : decode cX7_forget 18 = .ok (.iload 4, 2) := by decide +kernel
theorem dX7_forget_20 : decode cX7_forget 20 = .ok (.iaload, 1) := by decide +kernel
theorem dX7_forget_21 : decode cX7_forget 21 = .ok (.iload_n 1, 1) := by decide +kernel
theorem dX7_forget_22 : decode cX7_forget 22 = .ok (.if_icmp .ne 14, 3) := by decide +kernel
theorem dX7_forget_25 : decode cX7_forget 25 = .ok (.aload_n 0, 1) := by decide +kernel
theorem dX7_forget_26 : decode cX7_forget 26 = .ok (.getfield 90, 3) := by decide +kernel
theorem dX7_forget_29 : decode cX7_forget 29 = .ok (.iload 4, 2) := by decide +kernel
theorem dX7_forget_31 : decode cX7_forget 31 = .ok (.iaload, 1) := by decide +kernel
theorem dX7_forget_32 : decode cX7_forget 32 = .ok (.iload_n 2, 1) := by decide +kernel
theorem dX7_forget_33 : decode cX7_forget 33 = .ok (.if_icmp .lt 71, 3) := by decide +kernel
theorem dX7_forget_36 : decode cX7_forget 36 = .ok (.aload_n 0, 1) := by decide +kernel
theorem dX7_forget_37 : decode cX7_forget 37 = .ok (.getfield 87, 3) := by decide +kernel
theorem dX7_forget_40 : decode cX7_forget 40 = .ok (.iload_n 3, 1) := by decide +kernel
theorem dX7_forget_41 : decode cX7_forget 41 = .ok (.aload_n 0, 1) := by decide +kernel
theorem dX7_forget_42 : decode cX7_forget 42 = .ok (.getfield 87, 3) := by decide +kernel
theorem dX7_forget_45 : decode cX7_forget 45 = .ok (.iload 4, 2) := by decide +kernel
theorem dX7_forget_47 : decode cX7_forget 47 = .ok (.iaload, 1) := by decide +kernel
theorem dX7_forget_48 : decode cX7_forget 48 = .ok (.iastore, 1) := by decide +kernel
theorem dX7_forget_49 : decode cX7_forget 49 = .ok (.aload_n 0, 1) := by decide +kernel
theorem dX7_forget_50 : decode cX7_forget 50 = .ok (.getfield 90, 3) := by decide +kernel
theorem dX7_forget_53 : decode cX7_forget 53 = .ok (.iload_n 3, 1) := by decide +kernel
theorem dX7_forget_54 : decode cX7_forget 54 = .ok (.aload_n 0, 1) := by decide +kernel
theorem dX7_forget_55 : decode cX7_forget 55 = .ok (.getfield 90, 3) := by decide +kernel
theorem dX7_forget_58 : decode cX7_forget 58 = .ok (.iload 4, 2) := by decide +kernel
theorem dX7_forget_60 : decode cX7_forget 60 = .ok (.iaload, 1) := by decide +kernel
theorem dX7_forget_61 : decode cX7_forget 61 = .ok (.iastore, 1) := by decide +kernel
theorem dX7_forget_62 : decode cX7_forget 62 = .ok (.aload_n 0, 1) := by decide +kernel
theorem dX7_forget_63 : decode cX7_forget 63 = .ok (.getfield 93, 3) := by decide +kernel
theorem dX7_forget_66 : decode cX7_forget 66 = .ok (.iload_n 3, 1) := by decide +kernel
theorem dX7_forget_67 : decode cX7_forget 67 = .ok (.aload_n 0, 1) := by decide +kernel
theorem dX7_forget_68 : decode cX7_forget 68 = .ok (.getfield 93, 3) := by decide +kernel
theorem dX7_forget_71 : decode cX7_forget 71 = .ok (.iload 4, 2) := by decide +kernel
theorem dX7_forget_73 : decode cX7_forget 73 = .ok (.iaload, 1) := by decide +kernel
theorem dX7_forget_74 : decode cX7_forget 74 = .ok (.iastore, 1) := by decide +kernel
theorem dX7_forget_75 : decode cX7_forget 75 = .ok (.aload_n 0, 1) := by decide +kernel
theorem dX7_forget_76 : decode cX7_forget 76 = .ok (.getfield 96, 3) := by decide +kernel
theorem dX7_forget_79 : decode cX7_forget 79 = .ok (.iload_n 3, 1) := by decide +kernel
theorem dX7_forget_80 : decode cX7_forget 80 = .ok (.aload_n 0, 1) := by decide +kernel
theorem dX7_forget_81 : decode cX7_forget 81 = .ok (.getfield 96, 3) := by decide +kernel
theorem dX7_forget_84 : decode cX7_forget 84 = .ok (.iload 4, 2) := by decide +kernel
theorem dX7_forget_86 : decode cX7_forget 86 = .ok (.laload, 1) := by decide +kernel
theorem dX7_forget_87 : decode cX7_forget 87 = .ok (.lastore, 1) := by decide +kernel
theorem dX7_forget_88 : decode cX7_forget 88 = .ok (.aload_n 0, 1) := by decide +kernel
theorem dX7_forget_89 : decode cX7_forget 89 = .ok (.getfield 99, 3) := by decide +kernel
theorem dX7_forget_92 : decode cX7_forget 92 = .ok (.iload_n 3, 1) := by decide +kernel
theorem dX7_forget_93 : decode cX7_forget 93 = .ok (.aload_n 0, 1) := by decide +kernel
theorem dX7_forget_94 : decode cX7_forget 94 = .ok (.getfield 99, 3) := by decide +kernel
theorem dX7_forget_97 : decode cX7_forget 97 = .ok (.iload 4, 2) := by decide +kernel
theorem dX7_forget_99 : decode cX7_forget 99 = .ok (.iaload, 1) := by decide +kernel
theorem dX7_forget_100 : decode cX7_forget 100 = .ok (.iastore, 1) := by decide +kernel
theorem dX7_forget_101 : decode cX7_forget 101 = .ok (.iinc 3 1, 3) := by decide +kernel
theorem dX7_forget_104 : decode cX7_forget 104 = .ok (.iinc 4 1, 3) := by decide +kernel
theorem dX7_forget_107 : decode cX7_forget 107 = .ok (.goto (-102), 3) := by decide +kernel
theorem dX7_forget_110 : decode cX7_forget 110 = .ok (.aload_n 0, 1) := by decide +kernel
theorem dX7_forget_111 : decode cX7_forget 111 = .ok (.getfield 166, 3) := by decide +kernel
theorem dX7_forget_114 : decode cX7_forget 114 = .ok (.iload_n 3, 1) := by decide +kernel
theorem dX7_forget_115 : decode cX7_forget 115 = .ok (.isub, 1) := by decide +kernel
theorem dX7_forget_116 : decode cX7_forget 116 = .ok (.istore 4, 2) := by decide +kernel
theorem dX7_forget_118 : decode cX7_forget 118 = .ok (.aload_n 0, 1) := by decide +kernel
theorem dX7_forget_119 : decode cX7_forget 119 = .ok (.iload_n 3, 1) := by decide +kernel
theorem dX7_forget_120 : decode cX7_forget 120 = .ok (.putfield 166, 3) := by decide +kernel
theorem dX7_forget_123 : decode cX7_forget 123 = .ok (.iload 4, 2) := by decide +kernel
theorem dX7_forget_125 : decode cX7_forget 125 = .ok (.ireturn, 1) := by decide +kernel
theorem dX7_mayBe_0 : decode cX7_mayBe 0 = .ok (.lload_n 1, 1) := by decide +kernel
theorem dX7_mayBe_1 : decode cX7_mayBe 1 = .ok (.lconst 0, 1) := by decide +kernel
theorem dX7_mayBe_2 : decode cX7_mayBe 2 = .ok (.ldc2_w 173, 3) := by decide +kernel
theorem dX7_mayBe_5 : decode cX7_mayBe 5 = .ok (.invokestatic 109, 3) := by decide +kernel
theorem dX7_mayBe_8 : decode cX7_mayBe 8 = .ok (.ireturn, 1) := by decide +kernel
theorem dX7_done_0 : decode cX7_done 0 = .ok (.aload_n 0, 1) := by decide +kernel
theorem dX7_done_1 : decode cX7_done 1 = .ok (.iload_n 1, 1) := by decide +kernel
theorem dX7_done_2 : decode cX7_done 2 = .ok (.aload_n 0, 1) := by decide +kernel
theorem dX7_done_3 : decode cX7_done 3 = .ok (.getfield 30, 3) := by decide +kernel
theorem dX7_done_6 : decode cX7_done 6 = .ok (.iload_n 2, 1) := by decide +kernel
theorem dX7_done_7 : decode cX7_done 7 = .ok (.iaload, 1) := by decide +kernel
theorem dX7_done_8 : decode cX7_done 8 = .ok (.iconst 1, 1) := by decide +kernel
theorem dX7_done_9 : decode cX7_done 9 = .ok (.lload_n 3, 1) := by decide +kernel
theorem dX7_done_10 : decode cX7_done 10 = .ok (.iconst (-1), 1) := by decide +kernel
theorem dX7_done_11 : decode cX7_done 11 = .ok (.invokevirtual 175, 3) := by decide +kernel
theorem dX7_done_14 : decode cX7_done 14 = .ok (.aload_n 0, 1) := by decide +kernel
theorem dX7_done_15 : decode cX7_done 15 = .ok (.iload_n 2, 1) := by decide +kernel
theorem dX7_done_16 : decode cX7_done 16 = .ok (.iconst 1, 1) := by decide +kernel
theorem dX7_done_17 : decode cX7_done 17 = .ok (.lload_n 3, 1) := by decide +kernel
theorem dX7_done_18 : decode cX7_done 18 = .ok (.invokevirtual 151, 3) := by decide +kernel
theorem dX7_done_21 : decode cX7_done 21 = .ok (.return_, 1) := by decide +kernel
theorem dX7_work_0 : decode cX7_work 0 = .ok (.aload_n 0, 1) := by decide +kernel
theorem dX7_work_1 : decode cX7_work 1 = .ok (.getfield 24, 3) := by decide +kernel
theorem dX7_work_4 : decode cX7_work 4 = .ok (.iload_n 2, 1) := by decide +kernel
theorem dX7_work_5 : decode cX7_work 5 = .ok (.iaload, 1) := by decide +kernel
theorem dX7_work_6 : decode cX7_work 6 = .ok (.istore 5, 2) := by decide +kernel
theorem dX7_work_8 : decode cX7_work 8 = .ok (.bipush 10, 2) := by decide +kernel
theorem dX7_work_10 : decode cX7_work 10 = .ok (.iload_n 1, 1) := by decide +kernel
theorem dX7_work_11 : decode cX7_work 11 = .ok (.imul, 1) := by decide +kernel
theorem dX7_work_12 : decode cX7_work 12 = .ok (.iload 5, 2) := by decide +kernel
theorem dX7_work_14 : decode cX7_work 14 = .ok (.iadd, 1) := by decide +kernel
theorem dX7_work_15 : decode cX7_work 15 = .ok (.istore 6, 2) := by decide +kernel
theorem dX7_work_17 : decode cX7_work 17 = .ok (.aload_n 0, 1) := by decide +kernel
theorem dX7_work_18 : decode cX7_work 18 = .ok (.getfield 27, 3) := by decide +kernel
theorem dX7_work_21 : decode cX7_work 21 = .ok (.iload_n 2, 1) := by decide +kernel
theorem dX7_work_22 : decode cX7_work 22 = .ok (.iaload, 1) := by decide +kernel
theorem dX7_work_23 : decode cX7_work 23 = .ok (.aload_n 0, 1) := by decide +kernel
theorem dX7_work_24 : decode cX7_work 24 = .ok (.getfield 81, 3) := by decide +kernel
theorem dX7_work_27 : decode cX7_work 27 = .ok (.iload 6, 2) := by decide +kernel
theorem dX7_work_29 : decode cX7_work 29 = .ok (.iaload, 1) := by decide +kernel
theorem dX7_work_30 : decode cX7_work 30 = .ok (.if_icmp .ge 18, 3) := by decide +kernel
theorem dX7_work_33 : decode cX7_work 33 = .ok (.iload 4, 2) := by decide +kernel
theorem dX7_work_35 : decode cX7_work 35 = .ok (.ifCond .ne 12, 3) := by decide +kernel
theorem dX7_work_38 : decode cX7_work 38 = .ok (.aload_n 0, 1) := by decide +kernel
theorem dX7_work_39 : decode cX7_work 39 = .ok (.iload_n 2, 1) := by decide +kernel
theorem dX7_work_40 : decode cX7_work 40 = .ok (.iconst 1, 1) := by decide +kernel
theorem dX7_work_41 : decode cX7_work 41 = .ok (.ldc2_w 179, 3) := by decide +kernel
theorem dX7_work_44 : decode cX7_work 44 = .ok (.invokevirtual 151, 3) := by decide +kernel
theorem dX7_work_47 : decode cX7_work 47 = .ok (.return_, 1) := by decide +kernel
theorem dX7_work_48 : decode cX7_work 48 = .ok (.aload_n 0, 1) := by decide +kernel
theorem dX7_work_49 : decode cX7_work 49 = .ok (.getfield 27, 3) := by decide +kernel
theorem dX7_work_52 : decode cX7_work 52 = .ok (.iload_n 2, 1) := by decide +kernel
theorem dX7_work_53 : decode cX7_work 53 = .ok (.iaload, 1) := by decide +kernel
theorem dX7_work_54 : decode cX7_work 54 = .ok (.aload_n 0, 1) := by decide +kernel
theorem dX7_work_55 : decode cX7_work 55 = .ok (.getfield 81, 3) := by decide +kernel
theorem dX7_work_58 : decode cX7_work 58 = .ok (.iload 6, 2) := by decide +kernel
theorem dX7_work_60 : decode cX7_work 60 = .ok (.iaload, 1) := by decide +kernel
theorem dX7_work_61 : decode cX7_work 61 = .ok (.if_icmp .le 34, 3) := by decide +kernel
theorem dX7_work_64 : decode cX7_work 64 = .ok (.aload_n 0, 1) := by decide +kernel
theorem dX7_work_65 : decode cX7_work 65 = .ok (.getfield 81, 3) := by decide +kernel
theorem dX7_work_68 : decode cX7_work 68 = .ok (.iload 6, 2) := by decide +kernel
theorem dX7_work_70 : decode cX7_work 70 = .ok (.aload_n 0, 1) := by decide +kernel
theorem dX7_work_71 : decode cX7_work 71 = .ok (.getfield 27, 3) := by decide +kernel
theorem dX7_work_74 : decode cX7_work 74 = .ok (.iload_n 2, 1) := by decide +kernel
theorem dX7_work_75 : decode cX7_work 75 = .ok (.iaload, 1) := by decide +kernel
theorem dX7_work_76 : decode cX7_work 76 = .ok (.iastore, 1) := by decide +kernel
theorem dX7_work_77 : decode cX7_work 77 = .ok (.aload_n 0, 1) := by decide +kernel
theorem dX7_work_78 : decode cX7_work 78 = .ok (.getfield 84, 3) := by decide +kernel
theorem dX7_work_81 : decode cX7_work 81 = .ok (.iload 6, 2) := by decide +kernel
theorem dX7_work_83 : decode cX7_work 83 = .ok (.iconst 1, 1) := by decide +kernel
theorem dX7_work_84 : decode cX7_work 84 = .ok (.iastore, 1) := by decide +kernel
theorem dX7_work_85 : decode cX7_work 85 = .ok (.aload_n 0, 1) := by decide +kernel
theorem dX7_work_86 : decode cX7_work 86 = .ok (.iload 6, 2) := by decide +kernel
theorem dX7_work_88 : decode cX7_work 88 = .ok (.ldc 181, 2) := by decide +kernel
theorem dX7_work_90 : decode cX7_work 90 = .ok (.invokevirtual 182, 3) := by decide +kernel
theorem dX7_work_93 : decode cX7_work 93 = .ok (.istore 7, 2) := by decide +kernel
theorem dX7_work_95 : decode cX7_work 95 = .ok (.iload_n 3, 1) := by decide +kernel
theorem dX7_work_96 : decode cX7_work 96 = .ok (.aload_n 0, 1) := by decide +kernel
theorem dX7_work_97 : decode cX7_work 97 = .ok (.getfield 84, 3) := by decide +kernel
theorem dX7_work_100 : decode cX7_work 100 = .ok (.iload 6, 2) := by decide +kernel
theorem dX7_work_102 : decode cX7_work 102 = .ok (.iaload, 1) := by decide +kernel
theorem dX7_work_103 : decode cX7_work 103 = .ok (.if_icmp .le 20, 3) := by decide +kernel
theorem dX7_work_106 : decode cX7_work 106 = .ok (.aload_n 0, 1) := by decide +kernel
theorem dX7_work_107 : decode cX7_work 107 = .ok (.getfield 84, 3) := by decide +kernel
theorem dX7_work_110 : decode cX7_work 110 = .ok (.iload 6, 2) := by decide +kernel
theorem dX7_work_112 : decode cX7_work 112 = .ok (.iload_n 3, 1) := by decide +kernel
theorem dX7_work_113 : decode cX7_work 113 = .ok (.iastore, 1) := by decide +kernel
theorem dX7_work_114 : decode cX7_work 114 = .ok (.aload_n 0, 1) := by decide +kernel
theorem dX7_work_115 : decode cX7_work 115 = .ok (.iload 6, 2) := by decide +kernel
theorem dX7_work_117 : decode cX7_work 117 = .ok (.iload_n 3, 1) := by decide +kernel
theorem dX7_work_118 : decode cX7_work 118 = .ok (.invokevirtual 182, 3) := by decide +kernel
theorem dX7_work_121 : decode cX7_work 121 = .ok (.istore 7, 2) := by decide +kernel
theorem dX7_work_123 : decode cX7_work 123 = .ok (.iload 4, 2) := by decide +kernel
theorem dX7_work_125 : decode cX7_work 125 = .ok (.ifCond .ne 19, 3) := by decide +kernel
theorem dX7_work_128 : decode cX7_work 128 = .ok (.aload_n 0, 1) := by decide +kernel
theorem dX7_work_129 : decode cX7_work 129 = .ok (.getfield 30, 3) := by decide +kernel
theorem dX7_work_132 : decode cX7_work 132 = .ok (.iload_n 2, 1) := by decide +kernel
theorem dX7_work_133 : decode cX7_work 133 = .ok (.iaload, 1) := by decide +kernel
theorem dX7_work_134 : decode cX7_work 134 = .ok (.aload_n 0, 1) := by decide +kernel
theorem dX7_work_135 : decode cX7_work 135 = .ok (.getfield 84, 3) := by decide +kernel
theorem dX7_work_138 : decode cX7_work 138 = .ok (.iload 6, 2) := by decide +kernel
theorem dX7_work_140 : decode cX7_work 140 = .ok (.iaload, 1) := by decide +kernel
theorem dX7_work_141 : decode cX7_work 141 = .ok (.if_icmp .ge 4, 3) := by decide +kernel
theorem dX7_work_144 : decode cX7_work 144 = .ok (.return_, 1) := by decide +kernel
theorem dX7_work_145 : decode cX7_work 145 = .ok (.aload_n 0, 1) := by decide +kernel
theorem dX7_work_146 : decode cX7_work 146 = .ok (.iload 6, 2) := by decide +kernel
theorem dX7_work_148 : decode cX7_work 148 = .ok (.aload_n 0, 1) := by decide +kernel
theorem dX7_work_149 : decode cX7_work 149 = .ok (.getfield 30, 3) := by decide +kernel
theorem dX7_work_152 : decode cX7_work 152 = .ok (.iload_n 2, 1) := by decide +kernel
theorem dX7_work_153 : decode cX7_work 153 = .ok (.iaload, 1) := by decide +kernel
theorem dX7_work_154 : decode cX7_work 154 = .ok (.invokevirtual 169, 3) := by decide +kernel
theorem dX7_work_157 : decode cX7_work 157 = .ok (.istore 7, 2) := by decide +kernel
theorem dX7_work_159 : decode cX7_work 159 = .ok (.bipush 6, 2) := by decide +kernel
theorem dX7_work_161 : decode cX7_work 161 = .ok (.iload_n 1, 1) := by decide +kernel
theorem dX7_work_162 : decode cX7_work 162 = .ok (.imul, 1) := by decide +kernel
theorem dX7_work_163 : decode cX7_work 163 = .ok (.aload_n 0, 1) := by decide +kernel
theorem dX7_work_164 : decode cX7_work 164 = .ok (.getfield 39, 3) := by decide +kernel
theorem dX7_work_167 : decode cX7_work 167 = .ok (.iload_n 2, 1) := by decide +kernel
theorem dX7_work_168 : decode cX7_work 168 = .ok (.iaload, 1) := by decide +kernel
theorem dX7_work_169 : decode cX7_work 169 = .ok (.iadd, 1) := by decide +kernel
theorem dX7_work_170 : decode cX7_work 170 = .ok (.istore 8, 2) := by decide +kernel
theorem dX7_work_172 : decode cX7_work 172 = .ok (.iload 7, 2) := by decide +kernel
theorem dX7_work_174 : decode cX7_work 174 = .ok (.ifCond .lt 78, 3) := by decide +kernel
theorem dX7_work_177 : decode cX7_work 177 = .ok (.aload_n 0, 1) := by decide +kernel
theorem dX7_work_178 : decode cX7_work 178 = .ok (.getfield 93, 3) := by decide +kernel
theorem dX7_work_181 : decode cX7_work 181 = .ok (.iload 7, 2) := by decide +kernel
theorem dX7_work_183 : decode cX7_work 183 = .ok (.iaload, 1) := by decide +kernel
theorem dX7_work_184 : decode cX7_work 184 = .ok (.iconst 2, 1) := by decide +kernel
theorem dX7_work_185 : decode cX7_work 185 = .ok (.if_icmp .eq 36, 3) := by decide +kernel
theorem dX7_work_188 : decode cX7_work 188 = .ok (.aload_n 0, 1) := by decide +kernel
theorem dX7_work_189 : decode cX7_work 189 = .ok (.iload_n 2, 1) := by decide +kernel
theorem dX7_work_190 : decode cX7_work 190 = .ok (.iconst 1, 1) := by decide +kernel
theorem dX7_work_191 : decode cX7_work 191 = .ok (.aload_n 0, 1) := by decide +kernel
theorem dX7_work_192 : decode cX7_work 192 = .ok (.getfield 93, 3) := by decide +kernel
theorem dX7_work_195 : decode cX7_work 195 = .ok (.iload 7, 2) := by decide +kernel
theorem dX7_work_197 : decode cX7_work 197 = .ok (.iaload, 1) := by decide +kernel
theorem dX7_work_198 : decode cX7_work 198 = .ok (.iconst 1, 1) := by decide +kernel
theorem dX7_work_199 : decode cX7_work 199 = .ok (.if_icmp .ne 13, 3) := by decide +kernel
theorem dX7_work_202 : decode cX7_work 202 = .ok (.aload_n 0, 1) := by decide +kernel
theorem dX7_work_203 : decode cX7_work 203 = .ok (.getfield 96, 3) := by decide +kernel
theorem dX7_work_206 : decode cX7_work 206 = .ok (.iload 7, 2) := by decide +kernel
theorem dX7_work_208 : decode cX7_work 208 = .ok (.laload, 1) := by decide +kernel
theorem dX7_work_209 : decode cX7_work 209 = .ok (.goto 6, 3) := by decide +kernel
theorem dX7_work_212 : decode cX7_work 212 = .ok (.ldc2_w 185, 3) := by decide +kernel
theorem dX7_work_215 : decode cX7_work 215 = .ok (.invokevirtual 151, 3) := by decide +kernel
theorem dX7_work_218 : decode cX7_work 218 = .ok (.goto 89, 3) := by decide +kernel
theorem dX7_work_221 : decode cX7_work 221 = .ok (.aload_n 0, 1) := by decide +kernel
theorem dX7_work_222 : decode cX7_work 222 = .ok (.getfield 51, 3) := by decide +kernel
theorem dX7_work_225 : decode cX7_work 225 = .ok (.aload_n 0, 1) := by decide +kernel
theorem dX7_work_226 : decode cX7_work 226 = .ok (.getfield 99, 3) := by decide +kernel
theorem dX7_work_229 : decode cX7_work 229 = .ok (.iload 7, 2) := by decide +kernel
theorem dX7_work_231 : decode cX7_work 231 = .ok (.iaload, 1) := by decide +kernel
theorem dX7_work_232 : decode cX7_work 232 = .ok (.iaload, 1) := by decide +kernel
theorem dX7_work_233 : decode cX7_work 233 = .ok (.ifCond .ne 74, 3) := by decide +kernel
theorem dX7_work_236 : decode cX7_work 236 = .ok (.aload_n 0, 1) := by decide +kernel
theorem dX7_work_237 : decode cX7_work 237 = .ok (.aload_n 0, 1) := by decide +kernel
theorem dX7_work_238 : decode cX7_work 238 = .ok (.getfield 99, 3) := by decide +kernel
theorem dX7_work_241 : decode cX7_work 241 = .ok (.iload 7, 2) := by decide +kernel
theorem dX7_work_243 : decode cX7_work 243 = .ok (.iaload, 1) := by decide +kernel
theorem dX7_work_244 : decode cX7_work 244 = .ok (.iconst 0, 1) := by decide +kernel
theorem dX7_work_245 : decode cX7_work 245 = .ok (.lconst 0, 1) := by decide +kernel
theorem dX7_work_246 : decode cX7_work 246 = .ok (.invokevirtual 151, 3) := by decide +kernel
theorem dX7_work_249 : decode cX7_work 249 = .ok (.goto 58, 3) := by decide +kernel
theorem dX7_work_252 : decode cX7_work 252 = .ok (.aload_n 0, 1) := by decide +kernel
theorem dX7_work_253 : decode cX7_work 253 = .ok (.getfield 36, 3) := by decide +kernel
theorem dX7_work_256 : decode cX7_work 256 = .ok (.iload_n 2, 1) := by decide +kernel
theorem dX7_work_257 : decode cX7_work 257 = .ok (.iaload, 1) := by decide +kernel
theorem dX7_work_258 : decode cX7_work 258 = .ok (.ifCond .ne 19, 3) := by decide +kernel
theorem dX7_work_261 : decode cX7_work 261 = .ok (.aload_n 0, 1) := by decide +kernel
theorem dX7_work_262 : decode cX7_work 262 = .ok (.iload_n 2, 1) := by decide +kernel
theorem dX7_work_263 : decode cX7_work 263 = .ok (.iconst 1, 1) := by decide +kernel
theorem dX7_work_264 : decode cX7_work 264 = .ok (.aload_n 0, 1) := by decide +kernel
theorem dX7_work_265 : decode cX7_work 265 = .ok (.getfield 20, 3) := by decide +kernel
theorem dX7_work_268 : decode cX7_work 268 = .ok (.iload 8, 2) := by decide +kernel
theorem dX7_work_270 : decode cX7_work 270 = .ok (.laload, 1) := by decide +kernel
theorem dX7_work_271 : decode cX7_work 271 = .ok (.invokevirtual 151, 3) := by decide +kernel
theorem dX7_work_274 : decode cX7_work 274 = .ok (.goto 33, 3) := by decide +kernel
theorem dX7_work_277 : decode cX7_work 277 = .ok (.aload_n 0, 1) := by decide +kernel
theorem dX7_work_278 : decode cX7_work 278 = .ok (.getfield 36, 3) := by decide +kernel
theorem dX7_work_281 : decode cX7_work 281 = .ok (.iload_n 2, 1) := by decide +kernel
theorem dX7_work_282 : decode cX7_work 282 = .ok (.iaload, 1) := by decide +kernel
theorem dX7_work_283 : decode cX7_work 283 = .ok (.iconst 4, 1) := by decide +kernel
theorem dX7_work_284 : decode cX7_work 284 = .ok (.if_icmp .ne 13, 3) := by decide +kernel
theorem dX7_work_287 : decode cX7_work 287 = .ok (.aload_n 0, 1) := by decide +kernel
theorem dX7_work_288 : decode cX7_work 288 = .ok (.iload 6, 2) := by decide +kernel
theorem dX7_work_290 : decode cX7_work 290 = .ok (.iload_n 2, 1) := by decide +kernel
theorem dX7_work_291 : decode cX7_work 291 = .ok (.invokevirtual 187, 3) := by decide +kernel
theorem dX7_work_294 : decode cX7_work 294 = .ok (.goto 13, 3) := by decide +kernel
theorem dX7_work_297 : decode cX7_work 297 = .ok (.aload_n 0, 1) := by decide +kernel
theorem dX7_work_298 : decode cX7_work 298 = .ok (.iload_n 1, 1) := by decide +kernel
theorem dX7_work_299 : decode cX7_work 299 = .ok (.iload 6, 2) := by decide +kernel
theorem dX7_work_301 : decode cX7_work 301 = .ok (.iload_n 2, 1) := by decide +kernel
theorem dX7_work_302 : decode cX7_work 302 = .ok (.iload 8, 2) := by decide +kernel
theorem dX7_work_304 : decode cX7_work 304 = .ok (.invokevirtual 191, 3) := by decide +kernel
theorem dX7_work_307 : decode cX7_work 307 = .ok (.return_, 1) := by decide +kernel
theorem dX7_cancel_0 : decode cX7_cancel 0 = .ok (.aload_n 0, 1) := by decide +kernel
theorem dX7_cancel_1 : decode cX7_cancel 1 = .ok (.getfield 48, 3) := by decide +kernel
theorem dX7_cancel_4 : decode cX7_cancel 4 = .ok (.iload_n 2, 1) := by decide +kernel
theorem dX7_cancel_5 : decode cX7_cancel 5 = .ok (.iaload, 1) := by decide +kernel
theorem dX7_cancel_6 : decode cX7_cancel 6 = .ok (.istore_n 3, 1) := by decide +kernel
theorem dX7_cancel_7 : decode cX7_cancel 7 = .ok (.aload_n 0, 1) := by decide +kernel
theorem dX7_cancel_8 : decode cX7_cancel 8 = .ok (.iload_n 1, 1) := by decide +kernel
theorem dX7_cancel_9 : decode cX7_cancel 9 = .ok (.iload_n 3, 1) := by decide +kernel
theorem dX7_cancel_10 : decode cX7_cancel 10 = .ok (.invokevirtual 169, 3) := by decide +kernel
theorem dX7_cancel_13 : decode cX7_cancel 13 = .ok (.istore 4, 2) := by decide +kernel
theorem dX7_cancel_15 : decode cX7_cancel 15 = .ok (.lconst 1, 1) := by decide +kernel
theorem dX7_cancel_16 : decode cX7_cancel 16 = .ok (.lstore 5, 2) := by decide +kernel
theorem dX7_cancel_18 : decode cX7_cancel 18 = .ok (.iload_n 3, 1) := by decide +kernel
theorem dX7_cancel_19 : decode cX7_cancel 19 = .ok (.aload_n 0, 1) := by decide +kernel
theorem dX7_cancel_20 : decode cX7_cancel 20 = .ok (.getfield 30, 3) := by decide +kernel
theorem dX7_cancel_23 : decode cX7_cancel 23 = .ok (.iload_n 2, 1) := by decide +kernel
theorem dX7_cancel_24 : decode cX7_cancel 24 = .ok (.iaload, 1) := by decide +kernel
theorem dX7_cancel_25 : decode cX7_cancel 25 = .ok (.if_icmp .eq 29, 3) := by decide +kernel
theorem dX7_cancel_28 : decode cX7_cancel 28 = .ok (.iload_n 3, 1) := by decide +kernel
theorem dX7_cancel_29 : decode cX7_cancel 29 = .ok (.aload_n 0, 1) := by decide +kernel
theorem dX7_cancel_30 : decode cX7_cancel 30 = .ok (.getfield 84, 3) := by decide +kernel
theorem dX7_cancel_33 : decode cX7_cancel 33 = .ok (.iload_n 1, 1) := by decide +kernel
theorem dX7_cancel_34 : decode cX7_cancel 34 = .ok (.iaload, 1) := by decide +kernel
theorem dX7_cancel_35 : decode cX7_cancel 35 = .ok (.if_icmp .lt 19, 3) := by decide +kernel
theorem dX7_cancel_38 : decode cX7_cancel 38 = .ok (.iload 4, 2) := by decide +kernel
theorem dX7_cancel_40 : decode cX7_cancel 40 = .ok (.ifCond .lt 20, 3) := by decide +kernel
theorem dX7_cancel_43 : decode cX7_cancel 43 = .ok (.aload_n 0, 1) := by decide +kernel
theorem dX7_cancel_44 : decode cX7_cancel 44 = .ok (.getfield 93, 3) := by decide +kernel
theorem dX7_cancel_47 : decode cX7_cancel 47 = .ok (.iload 4, 2) := by decide +kernel
theorem dX7_cancel_49 : decode cX7_cancel 49 = .ok (.iaload, 1) := by decide +kernel
theorem dX7_cancel_50 : decode cX7_cancel 50 = .ok (.iconst 1, 1) := by decide +kernel
theorem dX7_cancel_51 : decode cX7_cancel 51 = .ok (.if_icmp .ne 9, 3) := by decide +kernel
theorem dX7_cancel_54 : decode cX7_cancel 54 = .ok (.lconst 0, 1) := by decide +kernel
theorem dX7_cancel_55 : decode cX7_cancel 55 = .ok (.lstore 5, 2) := by decide +kernel
theorem dX7_cancel_57 : decode cX7_cancel 57 = .ok (.goto 59, 3) := by decide +kernel
theorem dX7_cancel_60 : decode cX7_cancel 60 = .ok (.iload 4, 2) := by decide +kernel
theorem dX7_cancel_62 : decode cX7_cancel 62 = .ok (.ifCond .lt 22, 3) := by decide +kernel
theorem dX7_cancel_65 : decode cX7_cancel 65 = .ok (.aload_n 0, 1) := by decide +kernel
theorem dX7_cancel_66 : decode cX7_cancel 66 = .ok (.getfield 93, 3) := by decide +kernel
theorem dX7_cancel_69 : decode cX7_cancel 69 = .ok (.iload 4, 2) := by decide +kernel
theorem dX7_cancel_71 : decode cX7_cancel 71 = .ok (.iaload, 1) := by decide +kernel
theorem dX7_cancel_72 : decode cX7_cancel 72 = .ok (.iconst 2, 1) := by decide +kernel
theorem dX7_cancel_73 : decode cX7_cancel 73 = .ok (.if_icmp .ne 11, 3) := by decide +kernel
theorem dX7_cancel_76 : decode cX7_cancel 76 = .ok (.ldc2_w 164, 3) := by decide +kernel
theorem dX7_cancel_79 : decode cX7_cancel 79 = .ok (.lstore 5, 2) := by decide +kernel
theorem dX7_cancel_81 : decode cX7_cancel 81 = .ok (.goto 35, 3) := by decide +kernel
theorem dX7_cancel_84 : decode cX7_cancel 84 = .ok (.iload_n 3, 1) := by decide +kernel
theorem dX7_cancel_85 : decode cX7_cancel 85 = .ok (.aload_n 0, 1) := by decide +kernel
theorem dX7_cancel_86 : decode cX7_cancel 86 = .ok (.getfield 84, 3) := by decide +kernel
theorem dX7_cancel_89 : decode cX7_cancel 89 = .ok (.iload_n 1, 1) := by decide +kernel
theorem dX7_cancel_90 : decode cX7_cancel 90 = .ok (.iaload, 1) := by decide +kernel
theorem dX7_cancel_91 : decode cX7_cancel 91 = .ok (.aload_n 0, 1) := by decide +kernel
theorem dX7_cancel_92 : decode cX7_cancel 92 = .ok (.getfield 102, 3) := by decide +kernel
theorem dX7_cancel_95 : decode cX7_cancel 95 = .ok (.iadd, 1) := by decide +kernel
theorem dX7_cancel_96 : decode cX7_cancel 96 = .ok (.if_icmp .lt 11, 3) := by decide +kernel
theorem dX7_cancel_99 : decode cX7_cancel 99 = .ok (.ldc2_w 132, 3) := by decide +kernel
theorem dX7_cancel_102 : decode cX7_cancel 102 = .ok (.lstore 5, 2) := by decide +kernel
theorem dX7_cancel_104 : decode cX7_cancel 104 = .ok (.goto 12, 3) := by decide +kernel
theorem dX7_cancel_107 : decode cX7_cancel 107 = .ok (.aload_n 0, 1) := by decide +kernel
theorem dX7_cancel_108 : decode cX7_cancel 108 = .ok (.iload_n 1, 1) := by decide +kernel
theorem dX7_cancel_109 : decode cX7_cancel 109 = .ok (.iload_n 3, 1) := by decide +kernel
theorem dX7_cancel_110 : decode cX7_cancel 110 = .ok (.iconst 3, 1) := by decide +kernel
theorem dX7_cancel_111 : decode cX7_cancel 111 = .ok (.lconst 0, 1) := by decide +kernel
theorem dX7_cancel_112 : decode cX7_cancel 112 = .ok (.iconst (-1), 1) := by decide +kernel
theorem dX7_cancel_113 : decode cX7_cancel 113 = .ok (.invokevirtual 175, 3) := by decide +kernel
theorem dX7_cancel_116 : decode cX7_cancel 116 = .ok (.aload_n 0, 1) := by decide +kernel
theorem dX7_cancel_117 : decode cX7_cancel 117 = .ok (.iload_n 1, 1) := by decide +kernel
theorem dX7_cancel_118 : decode cX7_cancel 118 = .ok (.iload_n 2, 1) := by decide +kernel
theorem dX7_cancel_119 : decode cX7_cancel 119 = .ok (.lload 5, 2) := by decide +kernel
theorem dX7_cancel_121 : decode cX7_cancel 121 = .ok (.invokevirtual 195, 3) := by decide +kernel
theorem dX7_cancel_124 : decode cX7_cancel 124 = .ok (.return_, 1) := by decide +kernel
theorem dX7_change_0 : decode cX7_change 0 = .ok (.aload_n 0, 1) := by decide +kernel
theorem dX7_change_1 : decode cX7_change 1 = .ok (.getfield 48, 3) := by decide +kernel
theorem dX7_change_4 : decode cX7_change 4 = .ok (.iload_n 3, 1) := by decide +kernel
theorem dX7_change_5 : decode cX7_change 5 = .ok (.iaload, 1) := by decide +kernel
theorem dX7_change_6 : decode cX7_change 6 = .ok (.i2l, 1) := by decide +kernel
theorem dX7_change_7 : decode cX7_change 7 = .ok (.lstore 5, 2) := by decide +kernel
theorem dX7_change_9 : decode cX7_change 9 = .ok (.bipush 6, 2) := by decide +kernel
theorem dX7_change_11 : decode cX7_change 11 = .ok (.iload_n 1, 1) := by decide +kernel
theorem dX7_change_12 : decode cX7_change 12 = .ok (.imul, 1) := by decide +kernel
theorem dX7_change_13 : decode cX7_change 13 = .ok (.aload_n 0, 1) := by decide +kernel
theorem dX7_change_14 : decode cX7_change 14 = .ok (.getfield 42, 3) := by decide +kernel
theorem dX7_change_17 : decode cX7_change 17 = .ok (.iload_n 3, 1) := by decide +kernel
theorem dX7_change_18 : decode cX7_change 18 = .ok (.iaload, 1) := by decide +kernel
theorem dX7_change_19 : decode cX7_change 19 = .ok (.iadd, 1) := by decide +kernel
theorem dX7_change_20 : decode cX7_change 20 = .ok (.istore 7, 2) := by decide +kernel
theorem dX7_change_22 : decode cX7_change 22 = .ok (.bipush 6, 2) := by decide +kernel
theorem dX7_change_24 : decode cX7_change 24 = .ok (.iload_n 1, 1) := by decide +kernel
theorem dX7_change_25 : decode cX7_change 25 = .ok (.iadd, 1) := by decide +kernel
theorem dX7_change_26 : decode cX7_change 26 = .ok (.istore 8, 2) := by decide +kernel
theorem dX7_change_28 : decode cX7_change 28 = .ok (.iconst 1, 1) := by decide +kernel
theorem dX7_change_29 : decode cX7_change 29 = .ok (.istore 9, 2) := by decide +kernel
theorem dX7_change_31 : decode cX7_change 31 = .ok (.aload_n 0, 1) := by decide +kernel
theorem dX7_change_32 : decode cX7_change 32 = .ok (.getfield 36, 3) := by decide +kernel
theorem dX7_change_35 : decode cX7_change 35 = .ok (.iload_n 3, 1) := by decide +kernel
theorem dX7_change_36 : decode cX7_change 36 = .ok (.iaload, 1) := by decide +kernel
theorem dX7_change_37 : decode cX7_change 37 = .ok (.lookupswitch 115 #[(1, 27), (2, 64)], 27) := by decide +kernel
theorem dX7_change_64 : decode cX7_change 64 = .ok (.aload_n 0, 1) := by decide +kernel
theorem dX7_change_65 : decode cX7_change 65 = .ok (.getfield 24, 3) := by decide +kernel
theorem dX7_change_68 : decode cX7_change 68 = .ok (.iload_n 3, 1) := by decide +kernel
theorem dX7_change_69 : decode cX7_change 69 = .ok (.iaload, 1) := by decide +kernel
theorem dX7_change_70 : decode cX7_change 70 = .ok (.iconst 5, 1) := by decide +kernel
theorem dX7_change_71 : decode cX7_change 71 = .ok (.if_icmp .gt 20, 3) := by decide +kernel
theorem dX7_change_74 : decode cX7_change 74 = .ok (.aload_n 0, 1) := by decide +kernel
theorem dX7_change_75 : decode cX7_change 75 = .ok (.aload_n 0, 1) := by decide +kernel
theorem dX7_change_76 : decode cX7_change 76 = .ok (.getfield 20, 3) := by decide +kernel
theorem dX7_change_79 : decode cX7_change 79 = .ok (.iload 4, 2) := by decide +kernel
theorem dX7_change_81 : decode cX7_change 81 = .ok (.laload, 1) := by decide +kernel
theorem dX7_change_82 : decode cX7_change 82 = .ok (.lload 5, 2) := by decide +kernel
theorem dX7_change_84 : decode cX7_change 84 = .ok (.ladd, 1) := by decide +kernel
theorem dX7_change_85 : decode cX7_change 85 = .ok (.invokevirtual 199, 3) := by decide +kernel
theorem dX7_change_88 : decode cX7_change 88 = .ok (.ifCond .eq 7, 3) := by decide +kernel
theorem dX7_change_91 : decode cX7_change 91 = .ok (.iconst 1, 1) := by decide +kernel
theorem dX7_change_92 : decode cX7_change 92 = .ok (.goto 4, 3) := by decide +kernel
theorem dX7_change_95 : decode cX7_change 95 = .ok (.iconst 0, 1) := by decide +kernel
theorem dX7_change_96 : decode cX7_change 96 = .ok (.istore 9, 2) := by decide +kernel
theorem dX7_change_98 : decode cX7_change 98 = .ok (.goto 97, 3) := by decide +kernel
theorem dX7_change_101 : decode cX7_change 101 = .ok (.iload 4, 2) := by decide +kernel
theorem dX7_change_103 : decode cX7_change 103 = .ok (.iload 7, 2) := by decide +kernel
theorem dX7_change_105 : decode cX7_change 105 = .ok (.if_icmp .eq 37, 3) := by decide +kernel
theorem dX7_change_108 : decode cX7_change 108 = .ok (.aload_n 0, 1) := by decide +kernel
theorem dX7_change_109 : decode cX7_change 109 = .ok (.aload_n 0, 1) := by decide +kernel
theorem dX7_change_110 : decode cX7_change 110 = .ok (.getfield 20, 3) := by decide +kernel
theorem dX7_change_113 : decode cX7_change 113 = .ok (.iload 4, 2) := by decide +kernel
theorem dX7_change_115 : decode cX7_change 115 = .ok (.laload, 1) := by decide +kernel
theorem dX7_change_116 : decode cX7_change 116 = .ok (.lload 5, 2) := by decide +kernel
theorem dX7_change_118 : decode cX7_change 118 = .ok (.lsub, 1) := by decide +kernel
theorem dX7_change_119 : decode cX7_change 119 = .ok (.invokevirtual 199, 3) := by decide +kernel
theorem dX7_change_122 : decode cX7_change 122 = .ok (.ifCond .eq 24, 3) := by decide +kernel
theorem dX7_change_125 : decode cX7_change 125 = .ok (.aload_n 0, 1) := by decide +kernel
theorem dX7_change_126 : decode cX7_change 126 = .ok (.aload_n 0, 1) := by decide +kernel
theorem dX7_change_127 : decode cX7_change 127 = .ok (.getfield 20, 3) := by decide +kernel
theorem dX7_change_130 : decode cX7_change 130 = .ok (.iload 7, 2) := by decide +kernel
theorem dX7_change_132 : decode cX7_change 132 = .ok (.laload, 1) := by decide +kernel
theorem dX7_change_133 : decode cX7_change 133 = .ok (.lload 5, 2) := by decide +kernel
theorem dX7_change_135 : decode cX7_change 135 = .ok (.ladd, 1) := by decide +kernel
theorem dX7_change_136 : decode cX7_change 136 = .ok (.invokevirtual 199, 3) := by decide +kernel
theorem dX7_change_139 : decode cX7_change 139 = .ok (.ifCond .eq 7, 3) := by decide +kernel
theorem dX7_change_142 : decode cX7_change 142 = .ok (.iconst 1, 1) := by decide +kernel
theorem dX7_change_143 : decode cX7_change 143 = .ok (.goto 4, 3) := by decide +kernel
theorem dX7_change_146 : decode cX7_change 146 = .ok (.iconst 0, 1) := by decide +kernel
theorem dX7_change_147 : decode cX7_change 147 = .ok (.istore 9, 2) := by decide +kernel
theorem dX7_change_149 : decode cX7_change 149 = .ok (.goto 46, 3) := by decide +kernel
theorem dX7_change_152 : decode cX7_change 152 = .ok (.aload_n 0, 1) := by decide +kernel
theorem dX7_change_153 : decode cX7_change 153 = .ok (.aload_n 0, 1) := by decide +kernel
theorem dX7_change_154 : decode cX7_change 154 = .ok (.getfield 20, 3) := by decide +kernel
theorem dX7_change_157 : decode cX7_change 157 = .ok (.iload 4, 2) := by decide +kernel
theorem dX7_change_159 : decode cX7_change 159 = .ok (.laload, 1) := by decide +kernel
theorem dX7_change_160 : decode cX7_change 160 = .ok (.lload 5, 2) := by decide +kernel
theorem dX7_change_162 : decode cX7_change 162 = .ok (.lsub, 1) := by decide +kernel
theorem dX7_change_163 : decode cX7_change 163 = .ok (.invokevirtual 199, 3) := by decide +kernel
theorem dX7_change_166 : decode cX7_change 166 = .ok (.ifCond .eq 26, 3) := by decide +kernel
theorem dX7_change_169 : decode cX7_change 169 = .ok (.aload_n 0, 1) := by decide +kernel
theorem dX7_change_170 : decode cX7_change 170 = .ok (.getfield 106, 3) := by decide +kernel
theorem dX7_change_173 : decode cX7_change 173 = .ok (.sipush 300, 3) := by decide +kernel
theorem dX7_change_176 : decode cX7_change 176 = .ok (.if_icmp .ge 16, 3) := by decide +kernel
theorem dX7_change_179 : decode cX7_change 179 = .ok (.aload_n 0, 1) := by decide +kernel
theorem dX7_change_180 : decode cX7_change 180 = .ok (.iload 8, 2) := by decide +kernel
theorem dX7_change_182 : decode cX7_change 182 = .ok (.invokevirtual 142, 3) := by decide +kernel
theorem dX7_change_185 : decode cX7_change 185 = .ok (.ifCond .ne 7, 3) := by decide +kernel
theorem dX7_change_188 : decode cX7_change 188 = .ok (.iconst 1, 1) := by decide +kernel
theorem dX7_change_189 : decode cX7_change 189 = .ok (.goto 4, 3) := by decide +kernel
theorem dX7_change_192 : decode cX7_change 192 = .ok (.iconst 0, 1) := by decide +kernel
theorem dX7_change_193 : decode cX7_change 193 = .ok (.istore 9, 2) := by decide +kernel
theorem dX7_change_195 : decode cX7_change 195 = .ok (.iload 9, 2) := by decide +kernel
theorem dX7_change_197 : decode cX7_change 197 = .ok (.ifCond .ne 13, 3) := by decide +kernel
theorem dX7_change_200 : decode cX7_change 200 = .ok (.aload_n 0, 1) := by decide +kernel
theorem dX7_change_201 : decode cX7_change 201 = .ok (.iload_n 2, 1) := by decide +kernel
theorem dX7_change_202 : decode cX7_change 202 = .ok (.iload_n 3, 1) := by decide +kernel
theorem dX7_change_203 : decode cX7_change 203 = .ok (.ldc2_w 203, 3) := by decide +kernel
theorem dX7_change_206 : decode cX7_change 206 = .ok (.invokevirtual 195, 3) := by decide +kernel
theorem dX7_change_209 : decode cX7_change 209 = .ok (.return_, 1) := by decide +kernel
theorem dX7_change_210 : decode cX7_change 210 = .ok (.aload_n 0, 1) := by decide +kernel
theorem dX7_change_211 : decode cX7_change 211 = .ok (.getfield 63, 3) := by decide +kernel
theorem dX7_change_214 : decode cX7_change 214 = .ok (.iload_n 3, 1) := by decide +kernel
theorem dX7_change_215 : decode cX7_change 215 = .ok (.iconst 1, 1) := by decide +kernel
theorem dX7_change_216 : decode cX7_change 216 = .ok (.bastore, 1) := by decide +kernel
theorem dX7_change_217 : decode cX7_change 217 = .ok (.aload_n 0, 1) := by decide +kernel
theorem dX7_change_218 : decode cX7_change 218 = .ok (.getfield 20, 3) := by decide +kernel
theorem dX7_change_221 : decode cX7_change 221 = .ok (.iload 4, 2) := by decide +kernel
theorem dX7_change_223 : decode cX7_change 223 = .ok (.dup2, 1) := by decide +kernel
theorem dX7_change_224 : decode cX7_change 224 = .ok (.laload, 1) := by decide +kernel
theorem dX7_change_225 : decode cX7_change 225 = .ok (.aload_n 0, 1) := by decide +kernel
theorem dX7_change_226 : decode cX7_change 226 = .ok (.getfield 36, 3) := by decide +kernel
theorem dX7_change_229 : decode cX7_change 229 = .ok (.iload_n 3, 1) := by decide +kernel
theorem dX7_change_230 : decode cX7_change 230 = .ok (.iaload, 1) := by decide +kernel
theorem dX7_change_231 : decode cX7_change 231 = .ok (.iconst 1, 1) := by decide +kernel
theorem dX7_change_232 : decode cX7_change 232 = .ok (.if_icmp .ne 8, 3) := by decide +kernel
theorem dX7_change_235 : decode cX7_change 235 = .ok (.lload 5, 2) := by decide +kernel
theorem dX7_change_237 : decode cX7_change 237 = .ok (.goto 6, 3) := by decide +kernel
theorem dX7_change_240 : decode cX7_change 240 = .ok (.lload 5, 2) := by decide +kernel
theorem dX7_change_242 : decode cX7_change 242 = .ok (.lneg, 1) := by decide +kernel
theorem dX7_change_243 : decode cX7_change 243 = .ok (.ladd, 1) := by decide +kernel
theorem dX7_change_244 : decode cX7_change 244 = .ok (.lastore, 1) := by decide +kernel
theorem dX7_change_245 : decode cX7_change 245 = .ok (.aload_n 0, 1) := by decide +kernel
theorem dX7_change_246 : decode cX7_change 246 = .ok (.getfield 20, 3) := by decide +kernel
theorem dX7_change_249 : decode cX7_change 249 = .ok (.iload 7, 2) := by decide +kernel
theorem dX7_change_251 : decode cX7_change 251 = .ok (.dup2, 1) := by decide +kernel
theorem dX7_change_252 : decode cX7_change 252 = .ok (.laload, 1) := by decide +kernel
theorem dX7_change_253 : decode cX7_change 253 = .ok (.aload_n 0, 1) := by decide +kernel
theorem dX7_change_254 : decode cX7_change 254 = .ok (.getfield 36, 3) := by decide +kernel
theorem dX7_change_257 : decode cX7_change 257 = .ok (.iload_n 3, 1) := by decide +kernel
theorem dX7_change_258 : decode cX7_change 258 = .ok (.iaload, 1) := by decide +kernel
theorem dX7_change_259 : decode cX7_change 259 = .ok (.iconst 2, 1) := by decide +kernel
theorem dX7_change_260 : decode cX7_change 260 = .ok (.if_icmp .ne 8, 3) := by decide +kernel
theorem dX7_change_263 : decode cX7_change 263 = .ok (.lload 5, 2) := by decide +kernel
theorem dX7_change_265 : decode cX7_change 265 = .ok (.goto 4, 3) := by decide +kernel
theorem dX7_change_268 : decode cX7_change 268 = .ok (.lconst 0, 1) := by decide +kernel
theorem dX7_change_269 : decode cX7_change 269 = .ok (.ladd, 1) := by decide +kernel
theorem dX7_change_270 : decode cX7_change 270 = .ok (.lastore, 1) := by decide +kernel
theorem dX7_change_271 : decode cX7_change 271 = .ok (.aload_n 0, 1) := by decide +kernel
theorem dX7_change_272 : decode cX7_change 272 = .ok (.getfield 36, 3) := by decide +kernel
theorem dX7_change_275 : decode cX7_change 275 = .ok (.iload_n 3, 1) := by decide +kernel
theorem dX7_change_276 : decode cX7_change 276 = .ok (.iaload, 1) := by decide +kernel
theorem dX7_change_277 : decode cX7_change 277 = .ok (.iconst 3, 1) := by decide +kernel
theorem dX7_change_278 : decode cX7_change 278 = .ok (.if_icmp .eq 17, 3) := by decide +kernel
theorem dX7_change_281 : decode cX7_change 281 = .ok (.aload_n 0, 1) := by decide +kernel
theorem dX7_change_282 : decode cX7_change 282 = .ok (.iload_n 2, 1) := by decide +kernel
theorem dX7_change_283 : decode cX7_change 283 = .ok (.iload_n 3, 1) := by decide +kernel
theorem dX7_change_284 : decode cX7_change 284 = .ok (.aload_n 0, 1) := by decide +kernel
theorem dX7_change_285 : decode cX7_change 285 = .ok (.getfield 20, 3) := by decide +kernel
theorem dX7_change_288 : decode cX7_change 288 = .ok (.iload 4, 2) := by decide +kernel
theorem dX7_change_290 : decode cX7_change 290 = .ok (.laload, 1) := by decide +kernel
theorem dX7_change_291 : decode cX7_change 291 = .ok (.invokevirtual 195, 3) := by decide +kernel
theorem dX7_change_294 : decode cX7_change 294 = .ok (.return_, 1) := by decide +kernel
theorem dX7_change_295 : decode cX7_change 295 = .ok (.aload_n 0, 1) := by decide +kernel
theorem dX7_change_296 : decode cX7_change 296 = .ok (.iload 8, 2) := by decide +kernel
theorem dX7_change_298 : decode cX7_change 298 = .ok (.aload_n 0, 1) := by decide +kernel
theorem dX7_change_299 : decode cX7_change 299 = .ok (.getfield 45, 3) := by decide +kernel
theorem dX7_change_302 : decode cX7_change 302 = .ok (.iload_n 3, 1) := by decide +kernel
theorem dX7_change_303 : decode cX7_change 303 = .ok (.iaload, 1) := by decide +kernel
theorem dX7_change_304 : decode cX7_change 304 = .ok (.iconst 1, 1) := by decide +kernel
theorem dX7_change_305 : decode cX7_change 305 = .ok (.aload_n 0, 1) := by decide +kernel
theorem dX7_change_306 : decode cX7_change 306 = .ok (.getfield 42, 3) := by decide +kernel
theorem dX7_change_309 : decode cX7_change 309 = .ok (.iload_n 3, 1) := by decide +kernel
theorem dX7_change_310 : decode cX7_change 310 = .ok (.iaload, 1) := by decide +kernel
theorem dX7_change_311 : decode cX7_change 311 = .ok (.iconst 0, 1) := by decide +kernel
theorem dX7_change_312 : decode cX7_change 312 = .ok (.iconst 0, 1) := by decide +kernel
theorem dX7_change_313 : decode cX7_change 313 = .ok (.aload_n 0, 1) := by decide +kernel
theorem dX7_change_314 : decode cX7_change 314 = .ok (.getfield 48, 3) := by decide +kernel
theorem dX7_change_317 : decode cX7_change 317 = .ok (.iload_n 3, 1) := by decide +kernel
theorem dX7_change_318 : decode cX7_change 318 = .ok (.iaload, 1) := by decide +kernel
theorem dX7_change_319 : decode cX7_change 319 = .ok (.iload_n 3, 1) := by decide +kernel
theorem dX7_change_320 : decode cX7_change 320 = .ok (.invokevirtual 147, 3) := by decide +kernel
theorem dX7_change_323 : decode cX7_change 323 = .ok (.istore 10, 2) := by decide +kernel
theorem dX7_change_325 : decode cX7_change 325 = .ok (.aload_n 0, 1) := by decide +kernel
theorem dX7_change_326 : decode cX7_change 326 = .ok (.getfield 60, 3) := by decide +kernel
theorem dX7_change_329 : decode cX7_change 329 = .ok (.iload_n 3, 1) := by decide +kernel
theorem dX7_change_330 : decode cX7_change 330 = .ok (.iload 10, 2) := by decide +kernel
theorem dX7_change_332 : decode cX7_change 332 = .ok (.iastore, 1) := by decide +kernel
theorem dX7_change_333 : decode cX7_change 333 = .ok (.aload_n 0, 1) := by decide +kernel
theorem dX7_change_334 : decode cX7_change 334 = .ok (.iload_n 2, 1) := by decide +kernel
theorem dX7_change_335 : decode cX7_change 335 = .ok (.aload_n 0, 1) := by decide +kernel
theorem dX7_change_336 : decode cX7_change 336 = .ok (.getfield 30, 3) := by decide +kernel
theorem dX7_change_339 : decode cX7_change 339 = .ok (.iload_n 3, 1) := by decide +kernel
theorem dX7_change_340 : decode cX7_change 340 = .ok (.iaload, 1) := by decide +kernel
theorem dX7_change_341 : decode cX7_change 341 = .ok (.iconst 2, 1) := by decide +kernel
theorem dX7_change_342 : decode cX7_change 342 = .ok (.lconst 0, 1) := by decide +kernel
theorem dX7_change_343 : decode cX7_change 343 = .ok (.iload 10, 2) := by decide +kernel
theorem dX7_change_345 : decode cX7_change 345 = .ok (.invokevirtual 175, 3) := by decide +kernel
theorem dX7_change_348 : decode cX7_change 348 = .ok (.aload_n 0, 1) := by decide +kernel
theorem dX7_change_349 : decode cX7_change 349 = .ok (.iload 10, 2) := by decide +kernel
theorem dX7_change_351 : decode cX7_change 351 = .ok (.iconst 0, 1) := by decide +kernel
theorem dX7_change_352 : decode cX7_change 352 = .ok (.lconst 0, 1) := by decide +kernel
theorem dX7_change_353 : decode cX7_change 353 = .ok (.invokevirtual 151, 3) := by decide +kernel
theorem dX7_change_356 : decode cX7_change 356 = .ok (.return_, 1) := by decide +kernel
theorem dX7_through_0 : decode cX7_through 0 = .ok (.aload_n 0, 1) := by decide +kernel
theorem dX7_through_1 : decode cX7_through 1 = .ok (.getfield 51, 3) := by decide +kernel
theorem dX7_through_4 : decode cX7_through 4 = .ok (.iload_n 2, 1) := by decide +kernel
theorem dX7_through_5 : decode cX7_through 5 = .ok (.iaload, 1) := by decide +kernel
theorem dX7_through_6 : decode cX7_through 6 = .ok (.ifCond .eq 4, 3) := by decide +kernel
theorem dX7_through_9 : decode cX7_through 9 = .ok (.return_, 1) := by decide +kernel
theorem dX7_through_10 : decode cX7_through 10 = .ok (.aload_n 0, 1) := by decide +kernel
theorem dX7_through_11 : decode cX7_through 11 = .ok (.getfield 51, 3) := by decide +kernel
theorem dX7_through_14 : decode cX7_through 14 = .ok (.iload_n 2, 1) := by decide +kernel
theorem dX7_through_15 : decode cX7_through 15 = .ok (.iconst 1, 1) := by decide +kernel
theorem dX7_through_16 : decode cX7_through 16 = .ok (.iastore, 1) := by decide +kernel
theorem dX7_through_17 : decode cX7_through 17 = .ok (.aload_n 0, 1) := by decide +kernel
theorem dX7_through_18 : decode cX7_through 18 = .ok (.getfield 54, 3) := by decide +kernel
theorem dX7_through_21 : decode cX7_through 21 = .ok (.iload_n 2, 1) := by decide +kernel
theorem dX7_through_22 : decode cX7_through 22 = .ok (.lload_n 3, 1) := by decide +kernel
theorem dX7_through_23 : decode cX7_through 23 = .ok (.lastore, 1) := by decide +kernel
theorem dX7_through_24 : decode cX7_through 24 = .ok (.aload_n 0, 1) := by decide +kernel
theorem dX7_through_25 : decode cX7_through 25 = .ok (.getfield 57, 3) := by decide +kernel
theorem dX7_through_28 : decode cX7_through 28 = .ok (.iload_n 2, 1) := by decide +kernel
theorem dX7_through_29 : decode cX7_through 29 = .ok (.iaload, 1) := by decide +kernel
theorem dX7_through_30 : decode cX7_through 30 = .ok (.istore 5, 2) := by decide +kernel
theorem dX7_through_32 : decode cX7_through 32 = .ok (.aload_n 0, 1) := by decide +kernel
theorem dX7_through_33 : decode cX7_through 33 = .ok (.bipush 10, 2) := by decide +kernel
theorem dX7_through_35 : decode cX7_through 35 = .ok (.iload_n 1, 1) := by decide +kernel
theorem dX7_through_36 : decode cX7_through 36 = .ok (.imul, 1) := by decide +kernel
theorem dX7_through_37 : decode cX7_through 37 = .ok (.aload_n 0, 1) := by decide +kernel
theorem dX7_through_38 : decode cX7_through 38 = .ok (.getfield 24, 3) := by decide +kernel
theorem dX7_through_41 : decode cX7_through 41 = .ok (.iload 5, 2) := by decide +kernel
theorem dX7_through_43 : decode cX7_through 43 = .ok (.iaload, 1) := by decide +kernel
theorem dX7_through_44 : decode cX7_through 44 = .ok (.iadd, 1) := by decide +kernel
theorem dX7_through_45 : decode cX7_through 45 = .ok (.aload_n 0, 1) := by decide +kernel
theorem dX7_through_46 : decode cX7_through 46 = .ok (.getfield 30, 3) := by decide +kernel
theorem dX7_through_49 : decode cX7_through 49 = .ok (.iload 5, 2) := by decide +kernel
theorem dX7_through_51 : decode cX7_through 51 = .ok (.iaload, 1) := by decide +kernel
theorem dX7_through_52 : decode cX7_through 52 = .ok (.invokevirtual 169, 3) := by decide +kernel
theorem dX7_through_55 : decode cX7_through 55 = .ok (.istore 6, 2) := by decide +kernel
theorem dX7_through_57 : decode cX7_through 57 = .ok (.iload 6, 2) := by decide +kernel
theorem dX7_through_59 : decode cX7_through 59 = .ok (.ifCond .lt 71, 3) := by decide +kernel
theorem dX7_through_62 : decode cX7_through 62 = .ok (.aload_n 0, 1) := by decide +kernel
theorem dX7_through_63 : decode cX7_through 63 = .ok (.getfield 93, 3) := by decide +kernel
theorem dX7_through_66 : decode cX7_through 66 = .ok (.iload 6, 2) := by decide +kernel
theorem dX7_through_68 : decode cX7_through 68 = .ok (.iaload, 1) := by decide +kernel
theorem dX7_through_69 : decode cX7_through 69 = .ok (.iconst 2, 1) := by decide +kernel
theorem dX7_through_70 : decode cX7_through 70 = .ok (.if_icmp .ne 60, 3) := by decide +kernel
theorem dX7_through_73 : decode cX7_through 73 = .ok (.aload_n 0, 1) := by decide +kernel
theorem dX7_through_74 : decode cX7_through 74 = .ok (.getfield 99, 3) := by decide +kernel
theorem dX7_through_77 : decode cX7_through 77 = .ok (.iload 6, 2) := by decide +kernel
theorem dX7_through_79 : decode cX7_through 79 = .ok (.iaload, 1) := by decide +kernel
theorem dX7_through_80 : decode cX7_through 80 = .ok (.iload_n 2, 1) := by decide +kernel
theorem dX7_through_81 : decode cX7_through 81 = .ok (.if_icmp .ne 49, 3) := by decide +kernel
theorem dX7_through_84 : decode cX7_through 84 = .ok (.aload_n 0, 1) := by decide +kernel
theorem dX7_through_85 : decode cX7_through 85 = .ok (.getfield 93, 3) := by decide +kernel
theorem dX7_through_88 : decode cX7_through 88 = .ok (.iload 6, 2) := by decide +kernel
theorem dX7_through_90 : decode cX7_through 90 = .ok (.iconst 1, 1) := by decide +kernel
theorem dX7_through_91 : decode cX7_through 91 = .ok (.iastore, 1) := by decide +kernel
theorem dX7_through_92 : decode cX7_through 92 = .ok (.aload_n 0, 1) := by decide +kernel
theorem dX7_through_93 : decode cX7_through 93 = .ok (.getfield 96, 3) := by decide +kernel
theorem dX7_through_96 : decode cX7_through 96 = .ok (.iload 6, 2) := by decide +kernel
theorem dX7_through_98 : decode cX7_through 98 = .ok (.aload_n 0, 1) := by decide +kernel
theorem dX7_through_99 : decode cX7_through 99 = .ok (.getfield 20, 3) := by decide +kernel
theorem dX7_through_102 : decode cX7_through 102 = .ok (.bipush 6, 2) := by decide +kernel
theorem dX7_through_104 : decode cX7_through 104 = .ok (.iload_n 1, 1) := by decide +kernel
theorem dX7_through_105 : decode cX7_through 105 = .ok (.imul, 1) := by decide +kernel
theorem dX7_through_106 : decode cX7_through 106 = .ok (.aload_n 0, 1) := by decide +kernel
theorem dX7_through_107 : decode cX7_through 107 = .ok (.getfield 39, 3) := by decide +kernel
theorem dX7_through_110 : decode cX7_through 110 = .ok (.iload 5, 2) := by decide +kernel
theorem dX7_through_112 : decode cX7_through 112 = .ok (.iaload, 1) := by decide +kernel
theorem dX7_through_113 : decode cX7_through 113 = .ok (.iadd, 1) := by decide +kernel
theorem dX7_through_114 : decode cX7_through 114 = .ok (.laload, 1) := by decide +kernel
theorem dX7_through_115 : decode cX7_through 115 = .ok (.lastore, 1) := by decide +kernel
theorem dX7_through_116 : decode cX7_through 116 = .ok (.aload_n 0, 1) := by decide +kernel
theorem dX7_through_117 : decode cX7_through 117 = .ok (.iload 5, 2) := by decide +kernel
theorem dX7_through_119 : decode cX7_through 119 = .ok (.iconst 1, 1) := by decide +kernel
theorem dX7_through_120 : decode cX7_through 120 = .ok (.aload_n 0, 1) := by decide +kernel
theorem dX7_through_121 : decode cX7_through 121 = .ok (.getfield 96, 3) := by decide +kernel
theorem dX7_through_124 : decode cX7_through 124 = .ok (.iload 6, 2) := by decide +kernel
theorem dX7_through_126 : decode cX7_through 126 = .ok (.laload, 1) := by decide +kernel
theorem dX7_through_127 : decode cX7_through 127 = .ok (.invokevirtual 151, 3) := by decide +kernel
theorem dX7_through_130 : decode cX7_through 130 = .ok (.return_, 1) := by decide +kernel
theorem dX7_comes_0 : decode cX7_comes 0 = .ok (.iload_n 2, 1) := by decide +kernel
theorem dX7_comes_1 : decode cX7_comes 1 = .ok (.ifCond .eq 12, 3) := by decide +kernel
theorem dX7_comes_4 : decode cX7_comes 4 = .ok (.aload_n 0, 1) := by decide +kernel
theorem dX7_comes_5 : decode cX7_comes 5 = .ok (.getfield 24, 3) := by decide +kernel
theorem dX7_comes_8 : decode cX7_comes 8 = .ok (.iload_n 1, 1) := by decide +kernel
theorem dX7_comes_9 : decode cX7_comes 9 = .ok (.iaload, 1) := by decide +kernel
theorem dX7_comes_10 : decode cX7_comes 10 = .ok (.goto 12, 3) := by decide +kernel
theorem dX7_comes_13 : decode cX7_comes 13 = .ok (.bipush 6, 2) := by decide +kernel
theorem dX7_comes_15 : decode cX7_comes 15 = .ok (.aload_n 0, 1) := by decide +kernel
theorem dX7_comes_16 : decode cX7_comes 16 = .ok (.getfield 33, 3) := by decide +kernel
theorem dX7_comes_19 : decode cX7_comes 19 = .ok (.iload_n 1, 1) := by decide +kernel
theorem dX7_comes_20 : decode cX7_comes 20 = .ok (.iaload, 1) := by decide +kernel
theorem dX7_comes_21 : decode cX7_comes 21 = .ok (.iadd, 1) := by decide +kernel
theorem dX7_comes_22 : decode cX7_comes 22 = .ok (.istore 8, 2) := by decide +kernel
theorem dX7_comes_24 : decode cX7_comes 24 = .ok (.aload_n 0, 1) := by decide +kernel
theorem dX7_comes_25 : decode cX7_comes 25 = .ok (.getfield 7, 3) := by decide +kernel
theorem dX7_comes_28 : decode cX7_comes 28 = .ok (.iload 8, 2) := by decide +kernel
theorem dX7_comes_30 : decode cX7_comes 30 = .ok (.baload, 1) := by decide +kernel
theorem dX7_comes_31 : decode cX7_comes 31 = .ok (.ifCond .eq 4, 3) := by decide +kernel
theorem dX7_comes_34 : decode cX7_comes 34 = .ok (.return_, 1) := by decide +kernel
theorem dX7_comes_35 : decode cX7_comes 35 = .ok (.aload_n 0, 1) := by decide +kernel
theorem dX7_comes_36 : decode cX7_comes 36 = .ok (.iload 7, 2) := by decide +kernel
theorem dX7_comes_38 : decode cX7_comes 38 = .ok (.iconst 3, 1) := by decide +kernel
theorem dX7_comes_39 : decode cX7_comes 39 = .ok (.if_icmp .ge 7, 3) := by decide +kernel
theorem dX7_comes_42 : decode cX7_comes 42 = .ok (.iconst 1, 1) := by decide +kernel
theorem dX7_comes_43 : decode cX7_comes 43 = .ok (.goto 4, 3) := by decide +kernel
theorem dX7_comes_46 : decode cX7_comes 46 = .ok (.iconst 0, 1) := by decide +kernel
theorem dX7_comes_47 : decode cX7_comes 47 = .ok (.putfield 117, 3) := by decide +kernel
theorem dX7_comes_50 : decode cX7_comes 50 = .ok (.iload 7, 2) := by decide +kernel
theorem dX7_comes_52 : decode cX7_comes 52 = .ok (.ifCond .le 12, 3) := by decide +kernel
theorem dX7_comes_55 : decode cX7_comes 55 = .ok (.iload 6, 2) := by decide +kernel
theorem dX7_comes_57 : decode cX7_comes 57 = .ok (.ifCond .ne 7, 3) := by decide +kernel
theorem dX7_comes_60 : decode cX7_comes 60 = .ok (.iconst 1, 1) := by decide +kernel
theorem dX7_comes_61 : decode cX7_comes 61 = .ok (.goto 4, 3) := by decide +kernel
theorem dX7_comes_64 : decode cX7_comes 64 = .ok (.iconst 0, 1) := by decide +kernel
theorem dX7_comes_65 : decode cX7_comes 65 = .ok (.istore 9, 2) := by decide +kernel
theorem dX7_comes_67 : decode cX7_comes 67 = .ok (.iload 9, 2) := by decide +kernel
theorem dX7_comes_69 : decode cX7_comes 69 = .ok (.ifCond .eq 33, 3) := by decide +kernel
theorem dX7_comes_72 : decode cX7_comes 72 = .ok (.iload_n 2, 1) := by decide +kernel
theorem dX7_comes_73 : decode cX7_comes 73 = .ok (.ifCond .ne 29, 3) := by decide +kernel
theorem dX7_comes_76 : decode cX7_comes 76 = .ok (.aload_n 0, 1) := by decide +kernel
theorem dX7_comes_77 : decode cX7_comes 77 = .ok (.aload_n 0, 1) := by decide +kernel
theorem dX7_comes_78 : decode cX7_comes 78 = .ok (.getfield 33, 3) := by decide +kernel
theorem dX7_comes_81 : decode cX7_comes 81 = .ok (.iload_n 1, 1) := by decide +kernel
theorem dX7_comes_82 : decode cX7_comes 82 = .ok (.iaload, 1) := by decide +kernel
theorem dX7_comes_83 : decode cX7_comes 83 = .ok (.iload_n 1, 1) := by decide +kernel
theorem dX7_comes_84 : decode cX7_comes 84 = .ok (.iload_n 3, 1) := by decide +kernel
theorem dX7_comes_85 : decode cX7_comes 85 = .ok (.iload 7, 2) := by decide +kernel
theorem dX7_comes_87 : decode cX7_comes 87 = .ok (.iconst 1, 1) := by decide +kernel
theorem dX7_comes_88 : decode cX7_comes 88 = .ok (.if_icmp .ne 7, 3) := by decide +kernel
theorem dX7_comes_91 : decode cX7_comes 91 = .ok (.iconst 1, 1) := by decide +kernel
theorem dX7_comes_92 : decode cX7_comes 92 = .ok (.goto 4, 3) := by decide +kernel
theorem dX7_comes_95 : decode cX7_comes 95 = .ok (.iconst 0, 1) := by decide +kernel
theorem dX7_comes_96 : decode cX7_comes 96 = .ok (.invokevirtual 205, 3) := by decide +kernel
theorem dX7_comes_99 : decode cX7_comes 99 = .ok (.goto 91, 3) := by decide +kernel
theorem dX7_comes_102 : decode cX7_comes 102 = .ok (.iload 9, 2) := by decide +kernel
theorem dX7_comes_104 : decode cX7_comes 104 = .ok (.ifCond .eq 30, 3) := by decide +kernel
theorem dX7_comes_107 : decode cX7_comes 107 = .ok (.iload 8, 2) := by decide +kernel
theorem dX7_comes_109 : decode cX7_comes 109 = .ok (.iconst 5, 1) := by decide +kernel
theorem dX7_comes_110 : decode cX7_comes 110 = .ok (.if_icmp .le 24, 3) := by decide +kernel
theorem dX7_comes_113 : decode cX7_comes 113 = .ok (.iload 7, 2) := by decide +kernel
theorem dX7_comes_115 : decode cX7_comes 115 = .ok (.iconst 1, 1) := by decide +kernel
theorem dX7_comes_116 : decode cX7_comes 116 = .ok (.if_icmp .le 18, 3) := by decide +kernel
theorem dX7_comes_119 : decode cX7_comes 119 = .ok (.aload_n 0, 1) := by decide +kernel
theorem dX7_comes_120 : decode cX7_comes 120 = .ok (.iload 8, 2) := by decide +kernel
theorem dX7_comes_122 : decode cX7_comes 122 = .ok (.bipush 6, 2) := by decide +kernel
theorem dX7_comes_124 : decode cX7_comes 124 = .ok (.isub, 1) := by decide +kernel
theorem dX7_comes_125 : decode cX7_comes 125 = .ok (.iload_n 1, 1) := by decide +kernel
theorem dX7_comes_126 : decode cX7_comes 126 = .ok (.lload 4, 2) := by decide +kernel
theorem dX7_comes_128 : decode cX7_comes 128 = .ok (.invokevirtual 209, 3) := by decide +kernel
theorem dX7_comes_131 : decode cX7_comes 131 = .ok (.goto 59, 3) := by decide +kernel
theorem dX7_comes_134 : decode cX7_comes 134 = .ok (.iload 9, 2) := by decide +kernel
theorem dX7_comes_136 : decode cX7_comes 136 = .ok (.ifCond .eq 54, 3) := by decide +kernel
theorem dX7_comes_139 : decode cX7_comes 139 = .ok (.iload 8, 2) := by decide +kernel
theorem dX7_comes_141 : decode cX7_comes 141 = .ok (.bipush 6, 2) := by decide +kernel
theorem dX7_comes_143 : decode cX7_comes 143 = .ok (.if_icmp .ge 47, 3) := by decide +kernel
theorem dX7_comes_146 : decode cX7_comes 146 = .ok (.aload_n 0, 1) := by decide +kernel
theorem dX7_comes_147 : decode cX7_comes 147 = .ok (.getfield 51, 3) := by decide +kernel
theorem dX7_comes_150 : decode cX7_comes 150 = .ok (.iload_n 1, 1) := by decide +kernel
theorem dX7_comes_151 : decode cX7_comes 151 = .ok (.iaload, 1) := by decide +kernel
theorem dX7_comes_152 : decode cX7_comes 152 = .ok (.ifCond .ne 38, 3) := by decide +kernel
theorem dX7_comes_155 : decode cX7_comes 155 = .ok (.aload_n 0, 1) := by decide +kernel
theorem dX7_comes_156 : decode cX7_comes 156 = .ok (.getfield 51, 3) := by decide +kernel
theorem dX7_comes_159 : decode cX7_comes 159 = .ok (.iload_n 1, 1) := by decide +kernel
theorem dX7_comes_160 : decode cX7_comes 160 = .ok (.lload 4, 2) := by decide +kernel
theorem dX7_comes_162 : decode cX7_comes 162 = .ok (.ldc2_w 179, 3) := by decide +kernel
theorem dX7_comes_165 : decode cX7_comes 165 = .ok (.lcmp, 1) := by decide +kernel
theorem dX7_comes_166 : decode cX7_comes 166 = .ok (.ifCond .ne 14, 3) := by decide +kernel
theorem dX7_comes_169 : decode cX7_comes 169 = .ok (.aload_n 0, 1) := by decide +kernel
theorem dX7_comes_170 : decode cX7_comes 170 = .ok (.getfield 212, 3) := by decide +kernel
theorem dX7_comes_173 : decode cX7_comes 173 = .ok (.ifCond .eq 7, 3) := by decide +kernel
theorem dX7_comes_176 : decode cX7_comes 176 = .ok (.iconst 2, 1) := by decide +kernel
theorem dX7_comes_177 : decode cX7_comes 177 = .ok (.goto 4, 3) := by decide +kernel
theorem dX7_comes_180 : decode cX7_comes 180 = .ok (.iconst 1, 1) := by decide +kernel
theorem dX7_comes_181 : decode cX7_comes 181 = .ok (.iastore, 1) := by decide +kernel
theorem dX7_comes_182 : decode cX7_comes 182 = .ok (.aload_n 0, 1) := by decide +kernel
theorem dX7_comes_183 : decode cX7_comes 183 = .ok (.getfield 54, 3) := by decide +kernel
theorem dX7_comes_186 : decode cX7_comes 186 = .ok (.iload_n 1, 1) := by decide +kernel
theorem dX7_comes_187 : decode cX7_comes 187 = .ok (.lload 4, 2) := by decide +kernel
theorem dX7_comes_189 : decode cX7_comes 189 = .ok (.lastore, 1) := by decide +kernel
theorem dX7_comes_190 : decode cX7_comes 190 = .ok (.aload_n 0, 1) := by decide +kernel
theorem dX7_comes_191 : decode cX7_comes 191 = .ok (.iconst 0, 1) := by decide +kernel
theorem dX7_comes_192 : decode cX7_comes 192 = .ok (.putfield 117, 3) := by decide +kernel
theorem dX7_comes_195 : decode cX7_comes 195 = .ok (.iload 7, 2) := by decide +kernel
theorem dX7_comes_197 : decode cX7_comes 197 = .ok (.iconst 3, 1) := by decide +kernel
theorem dX7_comes_198 : decode cX7_comes 198 = .ok (.if_icmp .ge 21, 3) := by decide +kernel
theorem dX7_comes_201 : decode cX7_comes 201 = .ok (.aload_n 0, 1) := by decide +kernel
theorem dX7_comes_202 : decode cX7_comes 202 = .ok (.getfield 7, 3) := by decide +kernel
theorem dX7_comes_205 : decode cX7_comes 205 = .ok (.iload 8, 2) := by decide +kernel
theorem dX7_comes_207 : decode cX7_comes 207 = .ok (.iconst 1, 1) := by decide +kernel
theorem dX7_comes_208 : decode cX7_comes 208 = .ok (.bastore, 1) := by decide +kernel
theorem dX7_comes_209 : decode cX7_comes 209 = .ok (.aload_n 0, 1) := by decide +kernel
theorem dX7_comes_210 : decode cX7_comes 210 = .ok (.dup, 1) := by decide +kernel
theorem dX7_comes_211 : decode cX7_comes 211 = .ok (.getfield 215, 3) := by decide +kernel
theorem dX7_comes_214 : decode cX7_comes 214 = .ok (.iconst 1, 1) := by decide +kernel
theorem dX7_comes_215 : decode cX7_comes 215 = .ok (.iadd, 1) := by decide +kernel
theorem dX7_comes_216 : decode cX7_comes 216 = .ok (.putfield 215, 3) := by decide +kernel
theorem dX7_comes_219 : decode cX7_comes 219 = .ok (.return_, 1) := by decide +kernel
theorem dX7_removeLetter_0 : decode cX7_removeLetter 0 = .ok (.aload_n 0, 1) := by decide +kernel
theorem dX7_removeLetter_1 : decode cX7_removeLetter 1 = .ok (.dup, 1) := by decide +kernel
theorem dX7_removeLetter_2 : decode cX7_removeLetter 2 = .ok (.getfield 124, 3) := by decide +kernel
theorem dX7_removeLetter_5 : decode cX7_removeLetter 5 = .ok (.iconst 1, 1) := by decide +kernel
theorem dX7_removeLetter_6 : decode cX7_removeLetter 6 = .ok (.isub, 1) := by decide +kernel
theorem dX7_removeLetter_7 : decode cX7_removeLetter 7 = .ok (.putfield 124, 3) := by decide +kernel
theorem dX7_removeLetter_10 : decode cX7_removeLetter 10 = .ok (.iload_n 1, 1) := by decide +kernel
theorem dX7_removeLetter_11 : decode cX7_removeLetter 11 = .ok (.istore_n 2, 1) := by decide +kernel
theorem dX7_removeLetter_12 : decode cX7_removeLetter 12 = .ok (.iload_n 2, 1) := by decide +kernel
theorem dX7_removeLetter_13 : decode cX7_removeLetter 13 = .ok (.aload_n 0, 1) := by decide +kernel
theorem dX7_removeLetter_14 : decode cX7_removeLetter 14 = .ok (.getfield 124, 3) := by decide +kernel
theorem dX7_removeLetter_17 : decode cX7_removeLetter 17 = .ok (.if_icmp .ge 79, 3) := by decide +kernel
theorem dX7_removeLetter_20 : decode cX7_removeLetter 20 = .ok (.aload_n 0, 1) := by decide +kernel
theorem dX7_removeLetter_21 : decode cX7_removeLetter 21 = .ok (.getfield 66, 3) := by decide +kernel
theorem dX7_removeLetter_24 : decode cX7_removeLetter 24 = .ok (.iload_n 2, 1) := by decide +kernel
theorem dX7_removeLetter_25 : decode cX7_removeLetter 25 = .ok (.aload_n 0, 1) := by decide +kernel
theorem dX7_removeLetter_26 : decode cX7_removeLetter 26 = .ok (.getfield 66, 3) := by decide +kernel
theorem dX7_removeLetter_29 : decode cX7_removeLetter 29 = .ok (.iload_n 2, 1) := by decide +kernel
theorem dX7_removeLetter_30 : decode cX7_removeLetter 30 = .ok (.iconst 1, 1) := by decide +kernel
theorem dX7_removeLetter_31 : decode cX7_removeLetter 31 = .ok (.iadd, 1) := by decide +kernel
theorem dX7_removeLetter_32 : decode cX7_removeLetter 32 = .ok (.iaload, 1) := by decide +kernel
theorem dX7_removeLetter_33 : decode cX7_removeLetter 33 = .ok (.iastore, 1) := by decide +kernel
theorem dX7_removeLetter_34 : decode cX7_removeLetter 34 = .ok (.aload_n 0, 1) := by decide +kernel
theorem dX7_removeLetter_35 : decode cX7_removeLetter 35 = .ok (.getfield 69, 3) := by decide +kernel
theorem dX7_removeLetter_38 : decode cX7_removeLetter 38 = .ok (.iload_n 2, 1) := by decide +kernel
theorem dX7_removeLetter_39 : decode cX7_removeLetter 39 = .ok (.aload_n 0, 1) := by decide +kernel
theorem dX7_removeLetter_40 : decode cX7_removeLetter 40 = .ok (.getfield 69, 3) := by decide +kernel
theorem dX7_removeLetter_43 : decode cX7_removeLetter 43 = .ok (.iload_n 2, 1) := by decide +kernel
theorem dX7_removeLetter_44 : decode cX7_removeLetter 44 = .ok (.iconst 1, 1) := by decide +kernel
theorem dX7_removeLetter_45 : decode cX7_removeLetter 45 = .ok (.iadd, 1) := by decide +kernel
theorem dX7_removeLetter_46 : decode cX7_removeLetter 46 = .ok (.baload, 1) := by decide +kernel
theorem dX7_removeLetter_47 : decode cX7_removeLetter 47 = .ok (.bastore, 1) := by decide +kernel
theorem dX7_removeLetter_48 : decode cX7_removeLetter 48 = .ok (.aload_n 0, 1) := by decide +kernel
theorem dX7_removeLetter_49 : decode cX7_removeLetter 49 = .ok (.getfield 72, 3) := by decide +kernel
theorem dX7_removeLetter_52 : decode cX7_removeLetter 52 = .ok (.iload_n 2, 1) := by decide +kernel
theorem dX7_removeLetter_53 : decode cX7_removeLetter 53 = .ok (.aload_n 0, 1) := by decide +kernel
theorem dX7_removeLetter_54 : decode cX7_removeLetter 54 = .ok (.getfield 72, 3) := by decide +kernel
theorem dX7_removeLetter_57 : decode cX7_removeLetter 57 = .ok (.iload_n 2, 1) := by decide +kernel
theorem dX7_removeLetter_58 : decode cX7_removeLetter 58 = .ok (.iconst 1, 1) := by decide +kernel
theorem dX7_removeLetter_59 : decode cX7_removeLetter 59 = .ok (.iadd, 1) := by decide +kernel
theorem dX7_removeLetter_60 : decode cX7_removeLetter 60 = .ok (.iaload, 1) := by decide +kernel
theorem dX7_removeLetter_61 : decode cX7_removeLetter 61 = .ok (.iastore, 1) := by decide +kernel
theorem dX7_removeLetter_62 : decode cX7_removeLetter 62 = .ok (.aload_n 0, 1) := by decide +kernel
theorem dX7_removeLetter_63 : decode cX7_removeLetter 63 = .ok (.getfield 75, 3) := by decide +kernel
theorem dX7_removeLetter_66 : decode cX7_removeLetter 66 = .ok (.iload_n 2, 1) := by decide +kernel
theorem dX7_removeLetter_67 : decode cX7_removeLetter 67 = .ok (.aload_n 0, 1) := by decide +kernel
theorem dX7_removeLetter_68 : decode cX7_removeLetter 68 = .ok (.getfield 75, 3) := by decide +kernel
theorem dX7_removeLetter_71 : decode cX7_removeLetter 71 = .ok (.iload_n 2, 1) := by decide +kernel
theorem dX7_removeLetter_72 : decode cX7_removeLetter 72 = .ok (.iconst 1, 1) := by decide +kernel
theorem dX7_removeLetter_73 : decode cX7_removeLetter 73 = .ok (.iadd, 1) := by decide +kernel
theorem dX7_removeLetter_74 : decode cX7_removeLetter 74 = .ok (.laload, 1) := by decide +kernel
theorem dX7_removeLetter_75 : decode cX7_removeLetter 75 = .ok (.lastore, 1) := by decide +kernel
theorem dX7_removeLetter_76 : decode cX7_removeLetter 76 = .ok (.aload_n 0, 1) := by decide +kernel
theorem dX7_removeLetter_77 : decode cX7_removeLetter 77 = .ok (.getfield 78, 3) := by decide +kernel
theorem dX7_removeLetter_80 : decode cX7_removeLetter 80 = .ok (.iload_n 2, 1) := by decide +kernel
theorem dX7_removeLetter_81 : decode cX7_removeLetter 81 = .ok (.aload_n 0, 1) := by decide +kernel
theorem dX7_removeLetter_82 : decode cX7_removeLetter 82 = .ok (.getfield 78, 3) := by decide +kernel
theorem dX7_removeLetter_85 : decode cX7_removeLetter 85 = .ok (.iload_n 2, 1) := by decide +kernel
theorem dX7_removeLetter_86 : decode cX7_removeLetter 86 = .ok (.iconst 1, 1) := by decide +kernel
theorem dX7_removeLetter_87 : decode cX7_removeLetter 87 = .ok (.iadd, 1) := by decide +kernel
theorem dX7_removeLetter_88 : decode cX7_removeLetter 88 = .ok (.baload, 1) := by decide +kernel
theorem dX7_removeLetter_89 : decode cX7_removeLetter 89 = .ok (.bastore, 1) := by decide +kernel
theorem dX7_removeLetter_90 : decode cX7_removeLetter 90 = .ok (.iinc 2 1, 3) := by decide +kernel
theorem dX7_removeLetter_93 : decode cX7_removeLetter 93 = .ok (.goto (-81), 3) := by decide +kernel
theorem dX7_removeLetter_96 : decode cX7_removeLetter 96 = .ok (.return_, 1) := by decide +kernel
theorem dX7_brings_0 : decode cX7_brings 0 = .ok (.aload_n 0, 1) := by decide +kernel
theorem dX7_brings_1 : decode cX7_brings 1 = .ok (.getfield 66, 3) := by decide +kernel
theorem dX7_brings_4 : decode cX7_brings 4 = .ok (.iload_n 1, 1) := by decide +kernel
theorem dX7_brings_5 : decode cX7_brings 5 = .ok (.iaload, 1) := by decide +kernel
theorem dX7_brings_6 : decode cX7_brings 6 = .ok (.istore_n 3, 1) := by decide +kernel
theorem dX7_brings_7 : decode cX7_brings 7 = .ok (.aload_n 0, 1) := by decide +kernel
theorem dX7_brings_8 : decode cX7_brings 8 = .ok (.getfield 69, 3) := by decide +kernel
theorem dX7_brings_11 : decode cX7_brings 11 = .ok (.iload_n 1, 1) := by decide +kernel
theorem dX7_brings_12 : decode cX7_brings 12 = .ok (.baload, 1) := by decide +kernel
theorem dX7_brings_13 : decode cX7_brings 13 = .ok (.istore 4, 2) := by decide +kernel
theorem dX7_brings_15 : decode cX7_brings 15 = .ok (.aload_n 0, 1) := by decide +kernel
theorem dX7_brings_16 : decode cX7_brings 16 = .ok (.getfield 72, 3) := by decide +kernel
theorem dX7_brings_19 : decode cX7_brings 19 = .ok (.iload_n 1, 1) := by decide +kernel
theorem dX7_brings_20 : decode cX7_brings 20 = .ok (.iaload, 1) := by decide +kernel
theorem dX7_brings_21 : decode cX7_brings 21 = .ok (.istore 5, 2) := by decide +kernel
theorem dX7_brings_23 : decode cX7_brings 23 = .ok (.aload_n 0, 1) := by decide +kernel
theorem dX7_brings_24 : decode cX7_brings 24 = .ok (.getfield 75, 3) := by decide +kernel
theorem dX7_brings_27 : decode cX7_brings 27 = .ok (.iload_n 1, 1) := by decide +kernel
theorem dX7_brings_28 : decode cX7_brings 28 = .ok (.laload, 1) := by decide +kernel
theorem dX7_brings_29 : decode cX7_brings 29 = .ok (.lstore 6, 2) := by decide +kernel
theorem dX7_brings_31 : decode cX7_brings 31 = .ok (.aload_n 0, 1) := by decide +kernel
theorem dX7_brings_32 : decode cX7_brings 32 = .ok (.getfield 78, 3) := by decide +kernel
theorem dX7_brings_35 : decode cX7_brings 35 = .ok (.iload_n 1, 1) := by decide +kernel
theorem dX7_brings_36 : decode cX7_brings 36 = .ok (.baload, 1) := by decide +kernel
theorem dX7_brings_37 : decode cX7_brings 37 = .ok (.istore 8, 2) := by decide +kernel
theorem dX7_brings_39 : decode cX7_brings 39 = .ok (.aload_n 0, 1) := by decide +kernel
theorem dX7_brings_40 : decode cX7_brings 40 = .ok (.iload 4, 2) := by decide +kernel
theorem dX7_brings_42 : decode cX7_brings 42 = .ok (.ifCond .eq 16, 3) := by decide +kernel
theorem dX7_brings_45 : decode cX7_brings 45 = .ok (.lload 6, 2) := by decide +kernel
theorem dX7_brings_47 : decode cX7_brings 47 = .ok (.ldc2_w 179, 3) := by decide +kernel
theorem dX7_brings_50 : decode cX7_brings 50 = .ok (.lcmp, 1) := by decide +kernel
theorem dX7_brings_51 : decode cX7_brings 51 = .ok (.ifCond .ne 7, 3) := by decide +kernel
theorem dX7_brings_54 : decode cX7_brings 54 = .ok (.iconst 1, 1) := by decide +kernel
theorem dX7_brings_55 : decode cX7_brings 55 = .ok (.goto 4, 3) := by decide +kernel
theorem dX7_brings_58 : decode cX7_brings 58 = .ok (.iconst 0, 1) := by decide +kernel
theorem dX7_brings_59 : decode cX7_brings 59 = .ok (.putfield 212, 3) := by decide +kernel
theorem dX7_brings_62 : decode cX7_brings 62 = .ok (.aload_n 0, 1) := by decide +kernel
theorem dX7_brings_63 : decode cX7_brings 63 = .ok (.iload_n 1, 1) := by decide +kernel
theorem dX7_brings_64 : decode cX7_brings 64 = .ok (.invokevirtual 218, 3) := by decide +kernel
theorem dX7_brings_67 : decode cX7_brings 67 = .ok (.aload_n 0, 1) := by decide +kernel
theorem dX7_brings_68 : decode cX7_brings 68 = .ok (.dup, 1) := by decide +kernel
theorem dX7_brings_69 : decode cX7_brings 69 = .ok (.getfield 222, 3) := by decide +kernel
theorem dX7_brings_72 : decode cX7_brings 72 = .ok (.iconst 1, 1) := by decide +kernel
theorem dX7_brings_73 : decode cX7_brings 73 = .ok (.iadd, 1) := by decide +kernel
theorem dX7_brings_74 : decode cX7_brings 74 = .ok (.putfield 222, 3) := by decide +kernel
theorem dX7_brings_77 : decode cX7_brings 77 = .ok (.aload_n 0, 1) := by decide +kernel
theorem dX7_brings_78 : decode cX7_brings 78 = .ok (.iconst 0, 1) := by decide +kernel
theorem dX7_brings_79 : decode cX7_brings 79 = .ok (.putfield 121, 3) := by decide +kernel
theorem dX7_brings_82 : decode cX7_brings 82 = .ok (.aload_n 0, 1) := by decide +kernel
theorem dX7_brings_83 : decode cX7_brings 83 = .ok (.iload_n 3, 1) := by decide +kernel
theorem dX7_brings_84 : decode cX7_brings 84 = .ok (.iload 4, 2) := by decide +kernel
theorem dX7_brings_86 : decode cX7_brings 86 = .ok (.iload 5, 2) := by decide +kernel
theorem dX7_brings_88 : decode cX7_brings 88 = .ok (.lload 6, 2) := by decide +kernel
theorem dX7_brings_90 : decode cX7_brings 90 = .ok (.iload 8, 2) := by decide +kernel
theorem dX7_brings_92 : decode cX7_brings 92 = .ok (.iload_n 2, 1) := by decide +kernel
theorem dX7_brings_93 : decode cX7_brings 93 = .ok (.invokevirtual 225, 3) := by decide +kernel
theorem dX7_brings_96 : decode cX7_brings 96 = .ok (.return_, 1) := by decide +kernel
theorem dX7_isLetter_0 : decode cX7_isLetter 0 = .ok (.iload_n 1, 1) := by decide +kernel
theorem dX7_isLetter_1 : decode cX7_isLetter 1 = .ok (.i2l, 1) := by decide +kernel
theorem dX7_isLetter_2 : decode cX7_isLetter 2 = .ok (.lconst 0, 1) := by decide +kernel
theorem dX7_isLetter_3 : decode cX7_isLetter 3 = .ok (.aload_n 0, 1) := by decide +kernel
theorem dX7_isLetter_4 : decode cX7_isLetter 4 = .ok (.getfield 124, 3) := by decide +kernel
theorem dX7_isLetter_7 : decode cX7_isLetter 7 = .ok (.iconst 1, 1) := by decide +kernel
theorem dX7_isLetter_8 : decode cX7_isLetter 8 = .ok (.isub, 1) := by decide +kernel
theorem dX7_isLetter_9 : decode cX7_isLetter 9 = .ok (.i2l, 1) := by decide +kernel
theorem dX7_isLetter_10 : decode cX7_isLetter 10 = .ok (.invokestatic 109, 3) := by decide +kernel
theorem dX7_isLetter_13 : decode cX7_isLetter 13 = .ok (.ireturn, 1) := by decide +kernel
theorem dX7_deliver_0 : decode cX7_deliver 0 = .ok (.aload_n 0, 1) := by decide +kernel
theorem dX7_deliver_1 : decode cX7_deliver 1 = .ok (.iload_n 1, 1) := by decide +kernel
theorem dX7_deliver_2 : decode cX7_deliver 2 = .ok (.invokevirtual 229, 3) := by decide +kernel
theorem dX7_deliver_5 : decode cX7_deliver 5 = .ok (.ifCond .eq 15, 3) := by decide +kernel
theorem dX7_deliver_8 : decode cX7_deliver 8 = .ok (.iload_n 2, 1) := by decide +kernel
theorem dX7_deliver_9 : decode cX7_deliver 9 = .ok (.i2l, 1) := by decide +kernel
theorem dX7_deliver_10 : decode cX7_deliver 10 = .ok (.lconst 0, 1) := by decide +kernel
theorem dX7_deliver_11 : decode cX7_deliver 11 = .ok (.ldc2_w 132, 3) := by decide +kernel
theorem dX7_deliver_14 : decode cX7_deliver 14 = .ok (.invokestatic 109, 3) := by decide +kernel
theorem dX7_deliver_17 : decode cX7_deliver 17 = .ok (.ifCond .ne 6, 3) := by decide +kernel
theorem dX7_deliver_20 : decode cX7_deliver 20 = .ok (.ldc 140, 2) := by decide +kernel
theorem dX7_deliver_22 : decode cX7_deliver 22 = .ok (.ireturn, 1) := by decide +kernel
theorem dX7_deliver_23 : decode cX7_deliver 23 = .ok (.aload_n 0, 1) := by decide +kernel
theorem dX7_deliver_24 : decode cX7_deliver 24 = .ok (.iload_n 1, 1) := by decide +kernel
theorem dX7_deliver_25 : decode cX7_deliver 25 = .ok (.iload_n 2, 1) := by decide +kernel
theorem dX7_deliver_26 : decode cX7_deliver 26 = .ok (.invokevirtual 232, 3) := by decide +kernel
theorem dX7_deliver_29 : decode cX7_deliver 29 = .ok (.aload_n 0, 1) := by decide +kernel
theorem dX7_deliver_30 : decode cX7_deliver 30 = .ok (.getfield 121, 3) := by decide +kernel
theorem dX7_deliver_33 : decode cX7_deliver 33 = .ok (.ireturn, 1) := by decide +kernel
theorem dX7_lose_0 : decode cX7_lose 0 = .ok (.aload_n 0, 1) := by decide +kernel
theorem dX7_lose_1 : decode cX7_lose 1 = .ok (.iload_n 1, 1) := by decide +kernel
theorem dX7_lose_2 : decode cX7_lose 2 = .ok (.invokevirtual 229, 3) := by decide +kernel
theorem dX7_lose_5 : decode cX7_lose 5 = .ok (.ifCond .ne 6, 3) := by decide +kernel
theorem dX7_lose_8 : decode cX7_lose 8 = .ok (.ldc 140, 2) := by decide +kernel
theorem dX7_lose_10 : decode cX7_lose 10 = .ok (.ireturn, 1) := by decide +kernel
theorem dX7_lose_11 : decode cX7_lose 11 = .ok (.aload_n 0, 1) := by decide +kernel
theorem dX7_lose_12 : decode cX7_lose 12 = .ok (.iload_n 1, 1) := by decide +kernel
theorem dX7_lose_13 : decode cX7_lose 13 = .ok (.invokevirtual 218, 3) := by decide +kernel
theorem dX7_lose_16 : decode cX7_lose 16 = .ok (.aload_n 0, 1) := by decide +kernel
theorem dX7_lose_17 : decode cX7_lose 17 = .ok (.dup, 1) := by decide +kernel
theorem dX7_lose_18 : decode cX7_lose 18 = .ok (.getfield 127, 3) := by decide +kernel
theorem dX7_lose_21 : decode cX7_lose 21 = .ok (.iconst 1, 1) := by decide +kernel
theorem dX7_lose_22 : decode cX7_lose 22 = .ok (.iadd, 1) := by decide +kernel
theorem dX7_lose_23 : decode cX7_lose 23 = .ok (.putfield 127, 3) := by decide +kernel
theorem dX7_lose_26 : decode cX7_lose 26 = .ok (.aload_n 0, 1) := by decide +kernel
theorem dX7_lose_27 : decode cX7_lose 27 = .ok (.getfield 124, 3) := by decide +kernel
theorem dX7_lose_30 : decode cX7_lose 30 = .ok (.ireturn, 1) := by decide +kernel
theorem dX7_twice_0 : decode cX7_twice 0 = .ok (.aload_n 0, 1) := by decide +kernel
theorem dX7_twice_1 : decode cX7_twice 1 = .ok (.iload_n 1, 1) := by decide +kernel
theorem dX7_twice_2 : decode cX7_twice 2 = .ok (.invokevirtual 229, 3) := by decide +kernel
theorem dX7_twice_5 : decode cX7_twice 5 = .ok (.ifCond .ne 6, 3) := by decide +kernel
theorem dX7_twice_8 : decode cX7_twice 8 = .ok (.ldc 140, 2) := by decide +kernel
theorem dX7_twice_10 : decode cX7_twice 10 = .ok (.ireturn, 1) := by decide +kernel
theorem dX7_twice_11 : decode cX7_twice 11 = .ok (.aload_n 0, 1) := by decide +kernel
theorem dX7_twice_12 : decode cX7_twice 12 = .ok (.getfield 124, 3) := by decide +kernel
theorem dX7_twice_15 : decode cX7_twice 15 = .ok (.bipush 120, 2) := by decide +kernel
theorem dX7_twice_17 : decode cX7_twice 17 = .ok (.if_icmp .ne 6, 3) := by decide +kernel
theorem dX7_twice_20 : decode cX7_twice 20 = .ok (.ldc 146, 2) := by decide +kernel
theorem dX7_twice_22 : decode cX7_twice 22 = .ok (.ireturn, 1) := by decide +kernel
theorem dX7_twice_23 : decode cX7_twice 23 = .ok (.aload_n 0, 1) := by decide +kernel
theorem dX7_twice_24 : decode cX7_twice 24 = .ok (.getfield 66, 3) := by decide +kernel
theorem dX7_twice_27 : decode cX7_twice 27 = .ok (.aload_n 0, 1) := by decide +kernel
theorem dX7_twice_28 : decode cX7_twice 28 = .ok (.getfield 124, 3) := by decide +kernel
theorem dX7_twice_31 : decode cX7_twice 31 = .ok (.aload_n 0, 1) := by decide +kernel
theorem dX7_twice_32 : decode cX7_twice 32 = .ok (.getfield 66, 3) := by decide +kernel
theorem dX7_twice_35 : decode cX7_twice 35 = .ok (.iload_n 1, 1) := by decide +kernel
theorem dX7_twice_36 : decode cX7_twice 36 = .ok (.iaload, 1) := by decide +kernel
theorem dX7_twice_37 : decode cX7_twice 37 = .ok (.iastore, 1) := by decide +kernel
theorem dX7_twice_38 : decode cX7_twice 38 = .ok (.aload_n 0, 1) := by decide +kernel
theorem dX7_twice_39 : decode cX7_twice 39 = .ok (.getfield 69, 3) := by decide +kernel
theorem dX7_twice_42 : decode cX7_twice 42 = .ok (.aload_n 0, 1) := by decide +kernel
theorem dX7_twice_43 : decode cX7_twice 43 = .ok (.getfield 124, 3) := by decide +kernel
theorem dX7_twice_46 : decode cX7_twice 46 = .ok (.aload_n 0, 1) := by decide +kernel
theorem dX7_twice_47 : decode cX7_twice 47 = .ok (.getfield 69, 3) := by decide +kernel
theorem dX7_twice_50 : decode cX7_twice 50 = .ok (.iload_n 1, 1) := by decide +kernel
theorem dX7_twice_51 : decode cX7_twice 51 = .ok (.baload, 1) := by decide +kernel
theorem dX7_twice_52 : decode cX7_twice 52 = .ok (.bastore, 1) := by decide +kernel
theorem dX7_twice_53 : decode cX7_twice 53 = .ok (.aload_n 0, 1) := by decide +kernel
theorem dX7_twice_54 : decode cX7_twice 54 = .ok (.getfield 72, 3) := by decide +kernel
theorem dX7_twice_57 : decode cX7_twice 57 = .ok (.aload_n 0, 1) := by decide +kernel
theorem dX7_twice_58 : decode cX7_twice 58 = .ok (.getfield 124, 3) := by decide +kernel
theorem dX7_twice_61 : decode cX7_twice 61 = .ok (.aload_n 0, 1) := by decide +kernel
theorem dX7_twice_62 : decode cX7_twice 62 = .ok (.getfield 72, 3) := by decide +kernel
theorem dX7_twice_65 : decode cX7_twice 65 = .ok (.iload_n 1, 1) := by decide +kernel
theorem dX7_twice_66 : decode cX7_twice 66 = .ok (.iaload, 1) := by decide +kernel
theorem dX7_twice_67 : decode cX7_twice 67 = .ok (.iastore, 1) := by decide +kernel
theorem dX7_twice_68 : decode cX7_twice 68 = .ok (.aload_n 0, 1) := by decide +kernel
theorem dX7_twice_69 : decode cX7_twice 69 = .ok (.getfield 75, 3) := by decide +kernel
theorem dX7_twice_72 : decode cX7_twice 72 = .ok (.aload_n 0, 1) := by decide +kernel
theorem dX7_twice_73 : decode cX7_twice 73 = .ok (.getfield 124, 3) := by decide +kernel
theorem dX7_twice_76 : decode cX7_twice 76 = .ok (.aload_n 0, 1) := by decide +kernel
theorem dX7_twice_77 : decode cX7_twice 77 = .ok (.getfield 75, 3) := by decide +kernel
theorem dX7_twice_80 : decode cX7_twice 80 = .ok (.iload_n 1, 1) := by decide +kernel
theorem dX7_twice_81 : decode cX7_twice 81 = .ok (.laload, 1) := by decide +kernel
theorem dX7_twice_82 : decode cX7_twice 82 = .ok (.lastore, 1) := by decide +kernel
theorem dX7_twice_83 : decode cX7_twice 83 = .ok (.aload_n 0, 1) := by decide +kernel
theorem dX7_twice_84 : decode cX7_twice 84 = .ok (.getfield 78, 3) := by decide +kernel
theorem dX7_twice_87 : decode cX7_twice 87 = .ok (.aload_n 0, 1) := by decide +kernel
theorem dX7_twice_88 : decode cX7_twice 88 = .ok (.getfield 124, 3) := by decide +kernel
theorem dX7_twice_91 : decode cX7_twice 91 = .ok (.aload_n 0, 1) := by decide +kernel
theorem dX7_twice_92 : decode cX7_twice 92 = .ok (.getfield 78, 3) := by decide +kernel
theorem dX7_twice_95 : decode cX7_twice 95 = .ok (.iload_n 1, 1) := by decide +kernel
theorem dX7_twice_96 : decode cX7_twice 96 = .ok (.baload, 1) := by decide +kernel
theorem dX7_twice_97 : decode cX7_twice 97 = .ok (.bastore, 1) := by decide +kernel
theorem dX7_twice_98 : decode cX7_twice 98 = .ok (.aload_n 0, 1) := by decide +kernel
theorem dX7_twice_99 : decode cX7_twice 99 = .ok (.dup, 1) := by decide +kernel
theorem dX7_twice_100 : decode cX7_twice 100 = .ok (.getfield 124, 3) := by decide +kernel
theorem dX7_twice_103 : decode cX7_twice 103 = .ok (.iconst 1, 1) := by decide +kernel
theorem dX7_twice_104 : decode cX7_twice 104 = .ok (.iadd, 1) := by decide +kernel
theorem dX7_twice_105 : decode cX7_twice 105 = .ok (.putfield 124, 3) := by decide +kernel
theorem dX7_twice_108 : decode cX7_twice 108 = .ok (.aload_n 0, 1) := by decide +kernel
theorem dX7_twice_109 : decode cX7_twice 109 = .ok (.getfield 124, 3) := by decide +kernel
theorem dX7_twice_112 : decode cX7_twice 112 = .ok (.ireturn, 1) := by decide +kernel
theorem dX7_bend_0 : decode cX7_bend 0 = .ok (.aload_n 0, 1) := by decide +kernel
theorem dX7_bend_1 : decode cX7_bend 1 = .ok (.iload_n 1, 1) := by decide +kernel
theorem dX7_bend_2 : decode cX7_bend 2 = .ok (.invokevirtual 229, 3) := by decide +kernel
theorem dX7_bend_5 : decode cX7_bend 5 = .ok (.ifCond .ne 6, 3) := by decide +kernel
theorem dX7_bend_8 : decode cX7_bend 8 = .ok (.ldc 140, 2) := by decide +kernel
theorem dX7_bend_10 : decode cX7_bend 10 = .ok (.ireturn, 1) := by decide +kernel
theorem dX7_bend_11 : decode cX7_bend 11 = .ok (.aload_n 0, 1) := by decide +kernel
theorem dX7_bend_12 : decode cX7_bend 12 = .ok (.getfield 78, 3) := by decide +kernel
theorem dX7_bend_15 : decode cX7_bend 15 = .ok (.iload_n 1, 1) := by decide +kernel
theorem dX7_bend_16 : decode cX7_bend 16 = .ok (.baload, 1) := by decide +kernel
theorem dX7_bend_17 : decode cX7_bend 17 = .ok (.ifCond .eq 7, 3) := by decide +kernel
theorem dX7_bend_20 : decode cX7_bend 20 = .ok (.iconst 0, 1) := by decide +kernel
theorem dX7_bend_21 : decode cX7_bend 21 = .ok (.goto 4, 3) := by decide +kernel
theorem dX7_bend_24 : decode cX7_bend 24 = .ok (.iconst 1, 1) := by decide +kernel
theorem dX7_bend_25 : decode cX7_bend 25 = .ok (.istore_n 2, 1) := by decide +kernel
theorem dX7_bend_26 : decode cX7_bend 26 = .ok (.aload_n 0, 1) := by decide +kernel
theorem dX7_bend_27 : decode cX7_bend 27 = .ok (.getfield 78, 3) := by decide +kernel
theorem dX7_bend_30 : decode cX7_bend 30 = .ok (.iload_n 1, 1) := by decide +kernel
theorem dX7_bend_31 : decode cX7_bend 31 = .ok (.iconst 1, 1) := by decide +kernel
theorem dX7_bend_32 : decode cX7_bend 32 = .ok (.bastore, 1) := by decide +kernel
theorem dX7_bend_33 : decode cX7_bend 33 = .ok (.iload_n 2, 1) := by decide +kernel
theorem dX7_bend_34 : decode cX7_bend 34 = .ok (.ireturn, 1) := by decide +kernel
theorem dX7_letter_0 : decode cX7_letter 0 = .ok (.iload_n 2, 1) := by decide +kernel
theorem dX7_letter_1 : decode cX7_letter 1 = .ok (.i2l, 1) := by decide +kernel
theorem dX7_letter_2 : decode cX7_letter 2 = .ok (.lconst 0, 1) := by decide +kernel
theorem dX7_letter_3 : decode cX7_letter 3 = .ok (.ldc2_w 134, 3) := by decide +kernel
theorem dX7_letter_6 : decode cX7_letter 6 = .ok (.invokestatic 109, 3) := by decide +kernel
theorem dX7_letter_9 : decode cX7_letter 9 = .ok (.ifCond .ne 6, 3) := by decide +kernel
theorem dX7_letter_12 : decode cX7_letter 12 = .ok (.ldc 140, 2) := by decide +kernel
theorem dX7_letter_14 : decode cX7_letter 14 = .ok (.ireturn, 1) := by decide +kernel
theorem dX7_letter_15 : decode cX7_letter 15 = .ok (.aload_n 0, 1) := by decide +kernel
theorem dX7_letter_16 : decode cX7_letter 16 = .ok (.iload_n 1, 1) := by decide +kernel
theorem dX7_letter_17 : decode cX7_letter 17 = .ok (.invokevirtual 229, 3) := by decide +kernel
theorem dX7_letter_20 : decode cX7_letter 20 = .ok (.ifCond .ne 5, 3) := by decide +kernel
theorem dX7_letter_23 : decode cX7_letter 23 = .ok (.iconst (-1), 1) := by decide +kernel
theorem dX7_letter_24 : decode cX7_letter 24 = .ok (.ireturn, 1) := by decide +kernel
theorem dX7_letter_25 : decode cX7_letter 25 = .ok (.iload_n 2, 1) := by decide +kernel
theorem dX7_letter_26 : decode cX7_letter 26 = .ok (.tableswitch 74 0 3 #[30, 37, 52, 59], 30) := by decide +kernel
theorem dX7_letter_56 : decode cX7_letter 56 = .ok (.aload_n 0, 1) := by decide +kernel
theorem dX7_letter_57 : decode cX7_letter 57 = .ok (.getfield 66, 3) := by decide +kernel
theorem dX7_letter_60 : decode cX7_letter 60 = .ok (.iload_n 1, 1) := by decide +kernel
theorem dX7_letter_61 : decode cX7_letter 61 = .ok (.iaload, 1) := by decide +kernel
theorem dX7_letter_62 : decode cX7_letter 62 = .ok (.ireturn, 1) := by decide +kernel
theorem dX7_letter_63 : decode cX7_letter 63 = .ok (.aload_n 0, 1) := by decide +kernel
theorem dX7_letter_64 : decode cX7_letter 64 = .ok (.getfield 69, 3) := by decide +kernel
theorem dX7_letter_67 : decode cX7_letter 67 = .ok (.iload_n 1, 1) := by decide +kernel
theorem dX7_letter_68 : decode cX7_letter 68 = .ok (.baload, 1) := by decide +kernel
theorem dX7_letter_69 : decode cX7_letter 69 = .ok (.ifCond .eq 7, 3) := by decide +kernel
theorem dX7_letter_72 : decode cX7_letter 72 = .ok (.iconst 1, 1) := by decide +kernel
theorem dX7_letter_73 : decode cX7_letter 73 = .ok (.goto 4, 3) := by decide +kernel
theorem dX7_letter_76 : decode cX7_letter 76 = .ok (.iconst 0, 1) := by decide +kernel
theorem dX7_letter_77 : decode cX7_letter 77 = .ok (.ireturn, 1) := by decide +kernel
theorem dX7_letter_78 : decode cX7_letter 78 = .ok (.aload_n 0, 1) := by decide +kernel
theorem dX7_letter_79 : decode cX7_letter 79 = .ok (.getfield 72, 3) := by decide +kernel
theorem dX7_letter_82 : decode cX7_letter 82 = .ok (.iload_n 1, 1) := by decide +kernel
theorem dX7_letter_83 : decode cX7_letter 83 = .ok (.iaload, 1) := by decide +kernel
theorem dX7_letter_84 : decode cX7_letter 84 = .ok (.ireturn, 1) := by decide +kernel
theorem dX7_letter_85 : decode cX7_letter 85 = .ok (.aload_n 0, 1) := by decide +kernel
theorem dX7_letter_86 : decode cX7_letter 86 = .ok (.getfield 78, 3) := by decide +kernel
theorem dX7_letter_89 : decode cX7_letter 89 = .ok (.iload_n 1, 1) := by decide +kernel
theorem dX7_letter_90 : decode cX7_letter 90 = .ok (.baload, 1) := by decide +kernel
theorem dX7_letter_91 : decode cX7_letter 91 = .ok (.ifCond .eq 7, 3) := by decide +kernel
theorem dX7_letter_94 : decode cX7_letter 94 = .ok (.iconst 1, 1) := by decide +kernel
theorem dX7_letter_95 : decode cX7_letter 95 = .ok (.goto 4, 3) := by decide +kernel
theorem dX7_letter_98 : decode cX7_letter 98 = .ok (.iconst 0, 1) := by decide +kernel
theorem dX7_letter_99 : decode cX7_letter 99 = .ok (.ireturn, 1) := by decide +kernel
theorem dX7_letter_100 : decode cX7_letter 100 = .ok (.aload_n 0, 1) := by decide +kernel
theorem dX7_letter_101 : decode cX7_letter 101 = .ok (.getfield 69, 3) := by decide +kernel
theorem dX7_letter_104 : decode cX7_letter 104 = .ok (.iload_n 1, 1) := by decide +kernel
theorem dX7_letter_105 : decode cX7_letter 105 = .ok (.baload, 1) := by decide +kernel
theorem dX7_letter_106 : decode cX7_letter 106 = .ok (.ifCond .eq 20, 3) := by decide +kernel
theorem dX7_letter_109 : decode cX7_letter 109 = .ok (.aload_n 0, 1) := by decide +kernel
theorem dX7_letter_110 : decode cX7_letter 110 = .ok (.getfield 75, 3) := by decide +kernel
theorem dX7_letter_113 : decode cX7_letter 113 = .ok (.iload_n 1, 1) := by decide +kernel
theorem dX7_letter_114 : decode cX7_letter 114 = .ok (.laload, 1) := by decide +kernel
theorem dX7_letter_115 : decode cX7_letter 115 = .ok (.ldc2_w 179, 3) := by decide +kernel
theorem dX7_letter_118 : decode cX7_letter 118 = .ok (.lcmp, 1) := by decide +kernel
theorem dX7_letter_119 : decode cX7_letter 119 = .ok (.ifCond .ne 7, 3) := by decide +kernel
theorem dX7_letter_122 : decode cX7_letter 122 = .ok (.iconst 1, 1) := by decide +kernel
theorem dX7_letter_123 : decode cX7_letter 123 = .ok (.goto 4, 3) := by decide +kernel
theorem dX7_letter_126 : decode cX7_letter 126 = .ok (.iconst 0, 1) := by decide +kernel
theorem dX7_letter_127 : decode cX7_letter 127 = .ok (.ireturn, 1) := by decide +kernel
theorem dX7_flow_0 : decode cX7_flow 0 = .ok (.iload_n 1, 1) := by decide +kernel
theorem dX7_flow_1 : decode cX7_flow 1 = .ok (.i2l, 1) := by decide +kernel
theorem dX7_flow_2 : decode cX7_flow 2 = .ok (.lconst 1, 1) := by decide +kernel
theorem dX7_flow_3 : decode cX7_flow 3 = .ok (.ldc2_w 235, 3) := by decide +kernel
theorem dX7_flow_6 : decode cX7_flow 6 = .ok (.invokestatic 109, 3) := by decide +kernel
theorem dX7_flow_9 : decode cX7_flow 9 = .ok (.ifCond .ne 6, 3) := by decide +kernel
theorem dX7_flow_12 : decode cX7_flow 12 = .ok (.ldc 140, 2) := by decide +kernel
theorem dX7_flow_14 : decode cX7_flow 14 = .ok (.ireturn, 1) := by decide +kernel
theorem dX7_flow_15 : decode cX7_flow 15 = .ok (.iconst 0, 1) := by decide +kernel
theorem dX7_flow_16 : decode cX7_flow 16 = .ok (.istore_n 2, 1) := by decide +kernel
theorem dX7_flow_17 : decode cX7_flow 17 = .ok (.iload_n 2, 1) := by decide +kernel
theorem dX7_flow_18 : decode cX7_flow 18 = .ok (.iload_n 1, 1) := by decide +kernel
theorem dX7_flow_19 : decode cX7_flow 19 = .ok (.if_icmp .ge 22, 3) := by decide +kernel
theorem dX7_flow_22 : decode cX7_flow 22 = .ok (.aload_n 0, 1) := by decide +kernel
theorem dX7_flow_23 : decode cX7_flow 23 = .ok (.getfield 124, 3) := by decide +kernel
theorem dX7_flow_26 : decode cX7_flow 26 = .ok (.ifCond .le 15, 3) := by decide +kernel
theorem dX7_flow_29 : decode cX7_flow 29 = .ok (.aload_n 0, 1) := by decide +kernel
theorem dX7_flow_30 : decode cX7_flow 30 = .ok (.iconst 0, 1) := by decide +kernel
theorem dX7_flow_31 : decode cX7_flow 31 = .ok (.iconst 3, 1) := by decide +kernel
theorem dX7_flow_32 : decode cX7_flow 32 = .ok (.invokevirtual 232, 3) := by decide +kernel
theorem dX7_flow_35 : decode cX7_flow 35 = .ok (.iinc 2 1, 3) := by decide +kernel
theorem dX7_flow_38 : decode cX7_flow 38 = .ok (.goto (-21), 3) := by decide +kernel
theorem dX7_flow_41 : decode cX7_flow 41 = .ok (.iload_n 2, 1) := by decide +kernel
theorem dX7_flow_42 : decode cX7_flow 42 = .ok (.ireturn, 1) := by decide +kernel
theorem dX7_fall_0 : decode cX7_fall 0 = .ok (.iload_n 1, 1) := by decide +kernel
theorem dX7_fall_1 : decode cX7_fall 1 = .ok (.i2l, 1) := by decide +kernel
theorem dX7_fall_2 : decode cX7_fall 2 = .ok (.lconst 0, 1) := by decide +kernel
theorem dX7_fall_3 : decode cX7_fall 3 = .ok (.ldc2_w 162, 3) := by decide +kernel
theorem dX7_fall_6 : decode cX7_fall 6 = .ok (.invokestatic 109, 3) := by decide +kernel
theorem dX7_fall_9 : decode cX7_fall 9 = .ok (.ifCond .ne 6, 3) := by decide +kernel
theorem dX7_fall_12 : decode cX7_fall 12 = .ok (.ldc 140, 2) := by decide +kernel
theorem dX7_fall_14 : decode cX7_fall 14 = .ok (.ireturn, 1) := by decide +kernel
theorem dX7_fall_15 : decode cX7_fall 15 = .ok (.aload_n 0, 1) := by decide +kernel
theorem dX7_fall_16 : decode cX7_fall 16 = .ok (.getfield 7, 3) := by decide +kernel
theorem dX7_fall_19 : decode cX7_fall 19 = .ok (.iload_n 1, 1) := by decide +kernel
theorem dX7_fall_20 : decode cX7_fall 20 = .ok (.baload, 1) := by decide +kernel
theorem dX7_fall_21 : decode cX7_fall 21 = .ok (.ifCond .eq 6, 3) := by decide +kernel
theorem dX7_fall_24 : decode cX7_fall 24 = .ok (.ldc 141, 2) := by decide +kernel
theorem dX7_fall_26 : decode cX7_fall 26 = .ok (.ireturn, 1) := by decide +kernel
theorem dX7_fall_27 : decode cX7_fall 27 = .ok (.aload_n 0, 1) := by decide +kernel
theorem dX7_fall_28 : decode cX7_fall 28 = .ok (.getfield 7, 3) := by decide +kernel
theorem dX7_fall_31 : decode cX7_fall 31 = .ok (.iload_n 1, 1) := by decide +kernel
theorem dX7_fall_32 : decode cX7_fall 32 = .ok (.iconst 1, 1) := by decide +kernel
theorem dX7_fall_33 : decode cX7_fall 33 = .ok (.bastore, 1) := by decide +kernel
theorem dX7_fall_34 : decode cX7_fall 34 = .ok (.aload_n 0, 1) := by decide +kernel
theorem dX7_fall_35 : decode cX7_fall 35 = .ok (.dup, 1) := by decide +kernel
theorem dX7_fall_36 : decode cX7_fall 36 = .ok (.getfield 215, 3) := by decide +kernel
theorem dX7_fall_39 : decode cX7_fall 39 = .ok (.iconst 1, 1) := by decide +kernel
theorem dX7_fall_40 : decode cX7_fall 40 = .ok (.iadd, 1) := by decide +kernel
theorem dX7_fall_41 : decode cX7_fall 41 = .ok (.putfield 215, 3) := by decide +kernel
theorem dX7_fall_44 : decode cX7_fall 44 = .ok (.iconst 1, 1) := by decide +kernel
theorem dX7_fall_45 : decode cX7_fall 45 = .ok (.ireturn, 1) := by decide +kernel
theorem dX7_rise_0 : decode cX7_rise 0 = .ok (.iload_n 1, 1) := by decide +kernel
theorem dX7_rise_1 : decode cX7_rise 1 = .ok (.i2l, 1) := by decide +kernel
theorem dX7_rise_2 : decode cX7_rise 2 = .ok (.lconst 0, 1) := by decide +kernel
theorem dX7_rise_3 : decode cX7_rise 3 = .ok (.ldc2_w 162, 3) := by decide +kernel
theorem dX7_rise_6 : decode cX7_rise 6 = .ok (.invokestatic 109, 3) := by decide +kernel
theorem dX7_rise_9 : decode cX7_rise 9 = .ok (.ifCond .ne 6, 3) := by decide +kernel
theorem dX7_rise_12 : decode cX7_rise 12 = .ok (.ldc 140, 2) := by decide +kernel
theorem dX7_rise_14 : decode cX7_rise 14 = .ok (.ireturn, 1) := by decide +kernel
theorem dX7_rise_15 : decode cX7_rise 15 = .ok (.aload_n 0, 1) := by decide +kernel
theorem dX7_rise_16 : decode cX7_rise 16 = .ok (.getfield 7, 3) := by decide +kernel
theorem dX7_rise_19 : decode cX7_rise 19 = .ok (.iload_n 1, 1) := by decide +kernel
theorem dX7_rise_20 : decode cX7_rise 20 = .ok (.baload, 1) := by decide +kernel
theorem dX7_rise_21 : decode cX7_rise 21 = .ok (.ifCond .ne 6, 3) := by decide +kernel
theorem dX7_rise_24 : decode cX7_rise 24 = .ok (.ldc 141, 2) := by decide +kernel
theorem dX7_rise_26 : decode cX7_rise 26 = .ok (.ireturn, 1) := by decide +kernel
theorem dX7_rise_27 : decode cX7_rise 27 = .ok (.aload_n 0, 1) := by decide +kernel
theorem dX7_rise_28 : decode cX7_rise 28 = .ok (.getfield 7, 3) := by decide +kernel
theorem dX7_rise_31 : decode cX7_rise 31 = .ok (.iload_n 1, 1) := by decide +kernel
theorem dX7_rise_32 : decode cX7_rise 32 = .ok (.iconst 0, 1) := by decide +kernel
theorem dX7_rise_33 : decode cX7_rise 33 = .ok (.bastore, 1) := by decide +kernel
theorem dX7_rise_34 : decode cX7_rise 34 = .ok (.iload_n 1, 1) := by decide +kernel
theorem dX7_rise_35 : decode cX7_rise 35 = .ok (.bipush 6, 2) := by decide +kernel
theorem dX7_rise_37 : decode cX7_rise 37 = .ok (.if_icmp .ge 71, 3) := by decide +kernel
theorem dX7_rise_40 : decode cX7_rise 40 = .ok (.aload_n 0, 1) := by decide +kernel
theorem dX7_rise_41 : decode cX7_rise 41 = .ok (.getfield 13, 3) := by decide +kernel
theorem dX7_rise_44 : decode cX7_rise 44 = .ok (.iload_n 1, 1) := by decide +kernel
theorem dX7_rise_45 : decode cX7_rise 45 = .ok (.dup2, 1) := by decide +kernel
theorem dX7_rise_46 : decode cX7_rise 46 = .ok (.iaload, 1) := by decide +kernel
theorem dX7_rise_47 : decode cX7_rise 47 = .ok (.iconst 1, 1) := by decide +kernel
theorem dX7_rise_48 : decode cX7_rise 48 = .ok (.iadd, 1) := by decide +kernel
theorem dX7_rise_49 : decode cX7_rise 49 = .ok (.iastore, 1) := by decide +kernel
theorem dX7_rise_50 : decode cX7_rise 50 = .ok (.aload_n 0, 1) := by decide +kernel
theorem dX7_rise_51 : decode cX7_rise 51 = .ok (.getfield 17, 3) := by decide +kernel
theorem dX7_rise_54 : decode cX7_rise 54 = .ok (.iload_n 1, 1) := by decide +kernel
theorem dX7_rise_55 : decode cX7_rise 55 = .ok (.iconst 1, 1) := by decide +kernel
theorem dX7_rise_56 : decode cX7_rise 56 = .ok (.iastore, 1) := by decide +kernel
theorem dX7_rise_57 : decode cX7_rise 57 = .ok (.iconst 0, 1) := by decide +kernel
theorem dX7_rise_58 : decode cX7_rise 58 = .ok (.istore_n 2, 1) := by decide +kernel
theorem dX7_rise_59 : decode cX7_rise 59 = .ok (.iload_n 2, 1) := by decide +kernel
theorem dX7_rise_60 : decode cX7_rise 60 = .ok (.aload_n 0, 1) := by decide +kernel
theorem dX7_rise_61 : decode cX7_rise 61 = .ok (.getfield 106, 3) := by decide +kernel
theorem dX7_rise_64 : decode cX7_rise 64 = .ok (.if_icmp .ge 44, 3) := by decide +kernel
theorem dX7_rise_67 : decode cX7_rise 67 = .ok (.aload_n 0, 1) := by decide +kernel
theorem dX7_rise_68 : decode cX7_rise 68 = .ok (.getfield 51, 3) := by decide +kernel
theorem dX7_rise_71 : decode cX7_rise 71 = .ok (.iload_n 2, 1) := by decide +kernel
theorem dX7_rise_72 : decode cX7_rise 72 = .ok (.aload_n 0, 1) := by decide +kernel
theorem dX7_rise_73 : decode cX7_rise 73 = .ok (.getfield 24, 3) := by decide +kernel
theorem dX7_rise_76 : decode cX7_rise 76 = .ok (.iload_n 2, 1) := by decide +kernel
theorem dX7_rise_77 : decode cX7_rise 77 = .ok (.iaload, 1) := by decide +kernel
theorem dX7_rise_78 : decode cX7_rise 78 = .ok (.iload_n 1, 1) := by decide +kernel
theorem dX7_rise_79 : decode cX7_rise 79 = .ok (.if_icmp .ne 16, 3) := by decide +kernel
theorem dX7_rise_82 : decode cX7_rise 82 = .ok (.aload_n 0, 1) := by decide +kernel
theorem dX7_rise_83 : decode cX7_rise 83 = .ok (.getfield 51, 3) := by decide +kernel
theorem dX7_rise_86 : decode cX7_rise 86 = .ok (.iload_n 2, 1) := by decide +kernel
theorem dX7_rise_87 : decode cX7_rise 87 = .ok (.iaload, 1) := by decide +kernel
theorem dX7_rise_88 : decode cX7_rise 88 = .ok (.ifCond .ne 7, 3) := by decide +kernel
theorem dX7_rise_91 : decode cX7_rise 91 = .ok (.iconst 2, 1) := by decide +kernel
theorem dX7_rise_92 : decode cX7_rise 92 = .ok (.goto 9, 3) := by decide +kernel
theorem dX7_rise_95 : decode cX7_rise 95 = .ok (.aload_n 0, 1) := by decide +kernel
theorem dX7_rise_96 : decode cX7_rise 96 = .ok (.getfield 51, 3) := by decide +kernel
theorem dX7_rise_99 : decode cX7_rise 99 = .ok (.iload_n 2, 1) := by decide +kernel
theorem dX7_rise_100 : decode cX7_rise 100 = .ok (.iaload, 1) := by decide +kernel
theorem dX7_rise_101 : decode cX7_rise 101 = .ok (.iastore, 1) := by decide +kernel
theorem dX7_rise_102 : decode cX7_rise 102 = .ok (.iinc 2 1, 3) := by decide +kernel
theorem dX7_rise_105 : decode cX7_rise 105 = .ok (.goto (-46), 3) := by decide +kernel
theorem dX7_rise_108 : decode cX7_rise 108 = .ok (.aload_n 0, 1) := by decide +kernel
theorem dX7_rise_109 : decode cX7_rise 109 = .ok (.getfield 13, 3) := by decide +kernel
theorem dX7_rise_112 : decode cX7_rise 112 = .ok (.iload_n 1, 1) := by decide +kernel
theorem dX7_rise_113 : decode cX7_rise 113 = .ok (.iaload, 1) := by decide +kernel
theorem dX7_rise_114 : decode cX7_rise 114 = .ok (.ireturn, 1) := by decide +kernel
theorem dX7_isServer_0 : decode cX7_isServer 0 = .ok (.iload_n 0, 1) := by decide +kernel
theorem dX7_isServer_1 : decode cX7_isServer 1 = .ok (.i2l, 1) := by decide +kernel
theorem dX7_isServer_2 : decode cX7_isServer 2 = .ok (.lconst 0, 1) := by decide +kernel
theorem dX7_isServer_3 : decode cX7_isServer 3 = .ok (.ldc2_w 132, 3) := by decide +kernel
theorem dX7_isServer_6 : decode cX7_isServer 6 = .ok (.invokestatic 109, 3) := by decide +kernel
theorem dX7_isServer_9 : decode cX7_isServer 9 = .ok (.ireturn, 1) := by decide +kernel
theorem dX7_account_0 : decode cX7_account 0 = .ok (.iload_n 1, 1) := by decide +kernel
theorem dX7_account_1 : decode cX7_account 1 = .ok (.invokestatic 237, 3) := by decide +kernel
theorem dX7_account_4 : decode cX7_account 4 = .ok (.ifCond .eq 29, 3) := by decide +kernel
theorem dX7_account_7 : decode cX7_account 7 = .ok (.iload_n 2, 1) := by decide +kernel
theorem dX7_account_8 : decode cX7_account 8 = .ok (.i2l, 1) := by decide +kernel
theorem dX7_account_9 : decode cX7_account 9 = .ok (.lconst 0, 1) := by decide +kernel
theorem dX7_account_10 : decode cX7_account 10 = .ok (.ldc2_w 130, 3) := by decide +kernel
theorem dX7_account_13 : decode cX7_account 13 = .ok (.invokestatic 109, 3) := by decide +kernel
theorem dX7_account_16 : decode cX7_account 16 = .ok (.ifCond .eq 17, 3) := by decide +kernel
theorem dX7_account_19 : decode cX7_account 19 = .ok (.aload_n 0, 1) := by decide +kernel
theorem dX7_account_20 : decode cX7_account 20 = .ok (.getfield 20, 3) := by decide +kernel
theorem dX7_account_23 : decode cX7_account 23 = .ok (.bipush 6, 2) := by decide +kernel
theorem dX7_account_25 : decode cX7_account 25 = .ok (.iload_n 1, 1) := by decide +kernel
theorem dX7_account_26 : decode cX7_account 26 = .ok (.imul, 1) := by decide +kernel
theorem dX7_account_27 : decode cX7_account 27 = .ok (.iload_n 2, 1) := by decide +kernel
theorem dX7_account_28 : decode cX7_account 28 = .ok (.iadd, 1) := by decide +kernel
theorem dX7_account_29 : decode cX7_account 29 = .ok (.laload, 1) := by decide +kernel
theorem dX7_account_30 : decode cX7_account 30 = .ok (.goto 6, 3) := by decide +kernel
theorem dX7_account_33 : decode cX7_account 33 = .ok (.ldc2_w 158, 3) := by decide +kernel
theorem dX7_account_36 : decode cX7_account 36 = .ok (.lreturn, 1) := by decide +kernel
theorem dX7_recordsOf_0 : decode cX7_recordsOf 0 = .ok (.iconst 0, 1) := by decide +kernel
theorem dX7_recordsOf_1 : decode cX7_recordsOf 1 = .ok (.istore_n 2, 1) := by decide +kernel
theorem dX7_recordsOf_2 : decode cX7_recordsOf 2 = .ok (.iconst 0, 1) := by decide +kernel
theorem dX7_recordsOf_3 : decode cX7_recordsOf 3 = .ok (.istore_n 3, 1) := by decide +kernel
theorem dX7_recordsOf_4 : decode cX7_recordsOf 4 = .ok (.iload_n 3, 1) := by decide +kernel
theorem dX7_recordsOf_5 : decode cX7_recordsOf 5 = .ok (.aload_n 0, 1) := by decide +kernel
theorem dX7_recordsOf_6 : decode cX7_recordsOf 6 = .ok (.getfield 166, 3) := by decide +kernel
theorem dX7_recordsOf_9 : decode cX7_recordsOf 9 = .ok (.if_icmp .ge 27, 3) := by decide +kernel
theorem dX7_recordsOf_12 : decode cX7_recordsOf 12 = .ok (.iload_n 2, 1) := by decide +kernel
theorem dX7_recordsOf_13 : decode cX7_recordsOf 13 = .ok (.aload_n 0, 1) := by decide +kernel
theorem dX7_recordsOf_14 : decode cX7_recordsOf 14 = .ok (.getfield 87, 3) := by decide +kernel
theorem dX7_recordsOf_17 : decode cX7_recordsOf 17 = .ok (.iload_n 3, 1) := by decide +kernel
theorem dX7_recordsOf_18 : decode cX7_recordsOf 18 = .ok (.iaload, 1) := by decide +kernel
theorem dX7_recordsOf_19 : decode cX7_recordsOf 19 = .ok (.iload_n 1, 1) := by decide +kernel
theorem dX7_recordsOf_20 : decode cX7_recordsOf 20 = .ok (.if_icmp .ne 7, 3) := by decide +kernel
theorem dX7_recordsOf_23 : decode cX7_recordsOf 23 = .ok (.iconst 1, 1) := by decide +kernel
theorem dX7_recordsOf_24 : decode cX7_recordsOf 24 = .ok (.goto 4, 3) := by decide +kernel
theorem dX7_recordsOf_27 : decode cX7_recordsOf 27 = .ok (.iconst 0, 1) := by decide +kernel
theorem dX7_recordsOf_28 : decode cX7_recordsOf 28 = .ok (.iadd, 1) := by decide +kernel
theorem dX7_recordsOf_29 : decode cX7_recordsOf 29 = .ok (.istore_n 2, 1) := by decide +kernel
theorem dX7_recordsOf_30 : decode cX7_recordsOf 30 = .ok (.iinc 3 1, 3) := by decide +kernel
theorem dX7_recordsOf_33 : decode cX7_recordsOf 33 = .ok (.goto (-29), 3) := by decide +kernel
theorem dX7_recordsOf_36 : decode cX7_recordsOf 36 = .ok (.iload_n 2, 1) := by decide +kernel
theorem dX7_recordsOf_37 : decode cX7_recordsOf 37 = .ok (.ireturn, 1) := by decide +kernel
theorem dX7_kept_0 : decode cX7_kept 0 = .ok (.iload_n 1, 1) := by decide +kernel
theorem dX7_kept_1 : decode cX7_kept 1 = .ok (.invokestatic 237, 3) := by decide +kernel
theorem dX7_kept_4 : decode cX7_kept 4 = .ok (.ifCond .eq 27, 3) := by decide +kernel
theorem dX7_kept_7 : decode cX7_kept 7 = .ok (.iload_n 2, 1) := by decide +kernel
theorem dX7_kept_8 : decode cX7_kept 8 = .ok (.i2l, 1) := by decide +kernel
theorem dX7_kept_9 : decode cX7_kept 9 = .ok (.lconst 0, 1) := by decide +kernel
theorem dX7_kept_10 : decode cX7_kept 10 = .ok (.ldc2_w 162, 3) := by decide +kernel
theorem dX7_kept_13 : decode cX7_kept 13 = .ok (.invokestatic 109, 3) := by decide +kernel
theorem dX7_kept_16 : decode cX7_kept 16 = .ok (.ifCond .eq 15, 3) := by decide +kernel
theorem dX7_kept_19 : decode cX7_kept 19 = .ok (.iload_n 3, 1) := by decide +kernel
theorem dX7_kept_20 : decode cX7_kept 20 = .ok (.i2l, 1) := by decide +kernel
theorem dX7_kept_21 : decode cX7_kept 21 = .ok (.lconst 0, 1) := by decide +kernel
theorem dX7_kept_22 : decode cX7_kept 22 = .ok (.ldc2_w 164, 3) := by decide +kernel
theorem dX7_kept_25 : decode cX7_kept 25 = .ok (.invokestatic 109, 3) := by decide +kernel
theorem dX7_kept_28 : decode cX7_kept 28 = .ok (.ifCond .ne 6, 3) := by decide +kernel
theorem dX7_kept_31 : decode cX7_kept 31 = .ok (.ldc 140, 2) := by decide +kernel
theorem dX7_kept_33 : decode cX7_kept 33 = .ok (.ireturn, 1) := by decide +kernel
theorem dX7_kept_34 : decode cX7_kept 34 = .ok (.bipush 10, 2) := by decide +kernel
theorem dX7_kept_36 : decode cX7_kept 36 = .ok (.iload_n 1, 1) := by decide +kernel
theorem dX7_kept_37 : decode cX7_kept 37 = .ok (.imul, 1) := by decide +kernel
theorem dX7_kept_38 : decode cX7_kept 38 = .ok (.iload_n 2, 1) := by decide +kernel
theorem dX7_kept_39 : decode cX7_kept 39 = .ok (.iadd, 1) := by decide +kernel
theorem dX7_kept_40 : decode cX7_kept 40 = .ok (.istore 4, 2) := by decide +kernel
theorem dX7_kept_42 : decode cX7_kept 42 = .ok (.iload_n 3, 1) := by decide +kernel
theorem dX7_kept_43 : decode cX7_kept 43 = .ok (.ifCond .ne 13, 3) := by decide +kernel
theorem dX7_kept_46 : decode cX7_kept 46 = .ok (.aload_n 0, 1) := by decide +kernel
theorem dX7_kept_47 : decode cX7_kept 47 = .ok (.getfield 81, 3) := by decide +kernel
theorem dX7_kept_50 : decode cX7_kept 50 = .ok (.iload 4, 2) := by decide +kernel
theorem dX7_kept_52 : decode cX7_kept 52 = .ok (.iaload, 1) := by decide +kernel
theorem dX7_kept_53 : decode cX7_kept 53 = .ok (.goto 24, 3) := by decide +kernel
theorem dX7_kept_56 : decode cX7_kept 56 = .ok (.iload_n 3, 1) := by decide +kernel
theorem dX7_kept_57 : decode cX7_kept 57 = .ok (.iconst 1, 1) := by decide +kernel
theorem dX7_kept_58 : decode cX7_kept 58 = .ok (.if_icmp .ne 13, 3) := by decide +kernel
theorem dX7_kept_61 : decode cX7_kept 61 = .ok (.aload_n 0, 1) := by decide +kernel
theorem dX7_kept_62 : decode cX7_kept 62 = .ok (.getfield 84, 3) := by decide +kernel
theorem dX7_kept_65 : decode cX7_kept 65 = .ok (.iload 4, 2) := by decide +kernel
theorem dX7_kept_67 : decode cX7_kept 67 = .ok (.iaload, 1) := by decide +kernel
theorem dX7_kept_68 : decode cX7_kept 68 = .ok (.goto 9, 3) := by decide +kernel
theorem dX7_kept_71 : decode cX7_kept 71 = .ok (.aload_n 0, 1) := by decide +kernel
theorem dX7_kept_72 : decode cX7_kept 72 = .ok (.iload 4, 2) := by decide +kernel
theorem dX7_kept_74 : decode cX7_kept 74 = .ok (.invokevirtual 240, 3) := by decide +kernel
theorem dX7_kept_77 : decode cX7_kept 77 = .ok (.ireturn, 1) := by decide +kernel
theorem dX7_record_0 : decode cX7_record 0 = .ok (.iload_n 1, 1) := by decide +kernel
theorem dX7_record_1 : decode cX7_record 1 = .ok (.invokestatic 237, 3) := by decide +kernel
theorem dX7_record_4 : decode cX7_record 4 = .ok (.ifCond .eq 15, 3) := by decide +kernel
theorem dX7_record_7 : decode cX7_record 7 = .ok (.iload_n 2, 1) := by decide +kernel
theorem dX7_record_8 : decode cX7_record 8 = .ok (.i2l, 1) := by decide +kernel
theorem dX7_record_9 : decode cX7_record 9 = .ok (.lconst 0, 1) := by decide +kernel
theorem dX7_record_10 : decode cX7_record 10 = .ok (.ldc2_w 162, 3) := by decide +kernel
theorem dX7_record_13 : decode cX7_record 13 = .ok (.invokestatic 109, 3) := by decide +kernel
theorem dX7_record_16 : decode cX7_record 16 = .ok (.ifCond .ne 6, 3) := by decide +kernel
theorem dX7_record_19 : decode cX7_record 19 = .ok (.ldc 140, 2) := by decide +kernel
theorem dX7_record_21 : decode cX7_record 21 = .ok (.ireturn, 1) := by decide +kernel
theorem dX7_record_22 : decode cX7_record 22 = .ok (.aload_n 0, 1) := by decide +kernel
theorem dX7_record_23 : decode cX7_record 23 = .ok (.bipush 10, 2) := by decide +kernel
theorem dX7_record_25 : decode cX7_record 25 = .ok (.iload_n 1, 1) := by decide +kernel
theorem dX7_record_26 : decode cX7_record 26 = .ok (.imul, 1) := by decide +kernel
theorem dX7_record_27 : decode cX7_record 27 = .ok (.iload_n 2, 1) := by decide +kernel
theorem dX7_record_28 : decode cX7_record 28 = .ok (.iadd, 1) := by decide +kernel
theorem dX7_record_29 : decode cX7_record 29 = .ok (.iload_n 3, 1) := by decide +kernel
theorem dX7_record_30 : decode cX7_record 30 = .ok (.invokevirtual 169, 3) := by decide +kernel
theorem dX7_record_33 : decode cX7_record 33 = .ok (.istore 4, 2) := by decide +kernel
theorem dX7_record_35 : decode cX7_record 35 = .ok (.iload 4, 2) := by decide +kernel
theorem dX7_record_37 : decode cX7_record 37 = .ok (.ifCond .ge 7, 3) := by decide +kernel
theorem dX7_record_40 : decode cX7_record 40 = .ok (.iconst 0, 1) := by decide +kernel
theorem dX7_record_41 : decode cX7_record 41 = .ok (.goto 10, 3) := by decide +kernel
theorem dX7_record_44 : decode cX7_record 44 = .ok (.aload_n 0, 1) := by decide +kernel
theorem dX7_record_45 : decode cX7_record 45 = .ok (.getfield 93, 3) := by decide +kernel
theorem dX7_record_48 : decode cX7_record 48 = .ok (.iload 4, 2) := by decide +kernel
theorem dX7_record_50 : decode cX7_record 50 = .ok (.iaload, 1) := by decide +kernel
theorem dX7_record_51 : decode cX7_record 51 = .ok (.ireturn, 1) := by decide +kernel
theorem dX7_leave_0 : decode cX7_leave 0 = .ok (.iload_n 1, 1) := by decide +kernel
theorem dX7_leave_1 : decode cX7_leave 1 = .ok (.invokestatic 237, 3) := by decide +kernel
theorem dX7_leave_4 : decode cX7_leave 4 = .ok (.ifCond .eq 15, 3) := by decide +kernel
theorem dX7_leave_7 : decode cX7_leave 7 = .ok (.iload_n 2, 1) := by decide +kernel
theorem dX7_leave_8 : decode cX7_leave 8 = .ok (.i2l, 1) := by decide +kernel
theorem dX7_leave_9 : decode cX7_leave 9 = .ok (.lconst 0, 1) := by decide +kernel
theorem dX7_leave_10 : decode cX7_leave 10 = .ok (.ldc2_w 130, 3) := by decide +kernel
theorem dX7_leave_13 : decode cX7_leave 13 = .ok (.invokestatic 109, 3) := by decide +kernel
theorem dX7_leave_16 : decode cX7_leave 16 = .ok (.ifCond .ne 6, 3) := by decide +kernel
theorem dX7_leave_19 : decode cX7_leave 19 = .ok (.ldc 140, 2) := by decide +kernel
theorem dX7_leave_21 : decode cX7_leave 21 = .ok (.ireturn, 1) := by decide +kernel
theorem dX7_leave_22 : decode cX7_leave 22 = .ok (.bipush 10, 2) := by decide +kernel
theorem dX7_leave_24 : decode cX7_leave 24 = .ok (.iload_n 1, 1) := by decide +kernel
theorem dX7_leave_25 : decode cX7_leave 25 = .ok (.imul, 1) := by decide +kernel
theorem dX7_leave_26 : decode cX7_leave 26 = .ok (.iload_n 2, 1) := by decide +kernel
theorem dX7_leave_27 : decode cX7_leave 27 = .ok (.iadd, 1) := by decide +kernel
theorem dX7_leave_28 : decode cX7_leave 28 = .ok (.istore_n 3, 1) := by decide +kernel
theorem dX7_leave_29 : decode cX7_leave 29 = .ok (.iconst 0, 1) := by decide +kernel
theorem dX7_leave_30 : decode cX7_leave 30 = .ok (.istore 4, 2) := by decide +kernel
theorem dX7_leave_32 : decode cX7_leave 32 = .ok (.iconst 0, 1) := by decide +kernel
theorem dX7_leave_33 : decode cX7_leave 33 = .ok (.istore 5, 2) := by decide +kernel
theorem dX7_leave_35 : decode cX7_leave 35 = .ok (.iload 5, 2) := by decide +kernel
theorem dX7_leave_37 : decode cX7_leave 37 = .ok (.aload_n 0, 1) := by decide +kernel
theorem dX7_leave_38 : decode cX7_leave 38 = .ok (.getfield 166, 3) := by decide +kernel
theorem dX7_leave_41 : decode cX7_leave 41 = .ok (.if_icmp .ge 43, 3) := by decide +kernel
theorem dX7_leave_44 : decode cX7_leave 44 = .ok (.iload 4, 2) := by decide +kernel
theorem dX7_leave_46 : decode cX7_leave 46 = .ok (.ifCond .ne 25, 3) := by decide +kernel
theorem dX7_leave_49 : decode cX7_leave 49 = .ok (.aload_n 0, 1) := by decide +kernel
theorem dX7_leave_50 : decode cX7_leave 50 = .ok (.getfield 87, 3) := by decide +kernel
theorem dX7_leave_53 : decode cX7_leave 53 = .ok (.iload 5, 2) := by decide +kernel
theorem dX7_leave_55 : decode cX7_leave 55 = .ok (.iaload, 1) := by decide +kernel
theorem dX7_leave_56 : decode cX7_leave 56 = .ok (.iload_n 3, 1) := by decide +kernel
theorem dX7_leave_57 : decode cX7_leave 57 = .ok (.if_icmp .ne 18, 3) := by decide +kernel
theorem dX7_leave_60 : decode cX7_leave 60 = .ok (.aload_n 0, 1) := by decide +kernel
theorem dX7_leave_61 : decode cX7_leave 61 = .ok (.getfield 93, 3) := by decide +kernel
theorem dX7_leave_64 : decode cX7_leave 64 = .ok (.iload 5, 2) := by decide +kernel
theorem dX7_leave_66 : decode cX7_leave 66 = .ok (.iaload, 1) := by decide +kernel
theorem dX7_leave_67 : decode cX7_leave 67 = .ok (.iconst 2, 1) := by decide +kernel
theorem dX7_leave_68 : decode cX7_leave 68 = .ok (.if_icmp .ne 7, 3) := by decide +kernel
theorem dX7_leave_71 : decode cX7_leave 71 = .ok (.iconst 1, 1) := by decide +kernel
theorem dX7_leave_72 : decode cX7_leave 72 = .ok (.goto 4, 3) := by decide +kernel
theorem dX7_leave_75 : decode cX7_leave 75 = .ok (.iconst 0, 1) := by decide +kernel
theorem dX7_leave_76 : decode cX7_leave 76 = .ok (.istore 4, 2) := by decide +kernel
theorem dX7_leave_78 : decode cX7_leave 78 = .ok (.iinc 5 1, 3) := by decide +kernel
theorem dX7_leave_81 : decode cX7_leave 81 = .ok (.goto (-46), 3) := by decide +kernel
theorem dX7_leave_84 : decode cX7_leave 84 = .ok (.aload_n 0, 1) := by decide +kernel
theorem dX7_leave_85 : decode cX7_leave 85 = .ok (.getfield 7, 3) := by decide +kernel
theorem dX7_leave_88 : decode cX7_leave 88 = .ok (.bipush 6, 2) := by decide +kernel
theorem dX7_leave_90 : decode cX7_leave 90 = .ok (.iload_n 1, 1) := by decide +kernel
theorem dX7_leave_91 : decode cX7_leave 91 = .ok (.iadd, 1) := by decide +kernel
theorem dX7_leave_92 : decode cX7_leave 92 = .ok (.baload, 1) := by decide +kernel
theorem dX7_leave_93 : decode cX7_leave 93 = .ok (.ifCond .ne 8, 3) := by decide +kernel
theorem dX7_leave_96 : decode cX7_leave 96 = .ok (.iload 4, 2) := by decide +kernel
theorem dX7_leave_98 : decode cX7_leave 98 = .ok (.ifCond .eq 6, 3) := by decide +kernel
theorem dX7_leave_101 : decode cX7_leave 101 = .ok (.ldc 141, 2) := by decide +kernel
theorem dX7_leave_103 : decode cX7_leave 103 = .ok (.ireturn, 1) := by decide +kernel
theorem dX7_leave_104 : decode cX7_leave 104 = .ok (.aload_n 0, 1) := by decide +kernel
theorem dX7_leave_105 : decode cX7_leave 105 = .ok (.getfield 81, 3) := by decide +kernel
theorem dX7_leave_108 : decode cX7_leave 108 = .ok (.iload_n 3, 1) := by decide +kernel
theorem dX7_leave_109 : decode cX7_leave 109 = .ok (.dup2, 1) := by decide +kernel
theorem dX7_leave_110 : decode cX7_leave 110 = .ok (.iaload, 1) := by decide +kernel
theorem dX7_leave_111 : decode cX7_leave 111 = .ok (.iconst 1, 1) := by decide +kernel
theorem dX7_leave_112 : decode cX7_leave 112 = .ok (.iadd, 1) := by decide +kernel
theorem dX7_leave_113 : decode cX7_leave 113 = .ok (.iastore, 1) := by decide +kernel
theorem dX7_leave_114 : decode cX7_leave 114 = .ok (.aload_n 0, 1) := by decide +kernel
theorem dX7_leave_115 : decode cX7_leave 115 = .ok (.getfield 84, 3) := by decide +kernel
theorem dX7_leave_118 : decode cX7_leave 118 = .ok (.iload_n 3, 1) := by decide +kernel
theorem dX7_leave_119 : decode cX7_leave 119 = .ok (.iconst 1, 1) := by decide +kernel
theorem dX7_leave_120 : decode cX7_leave 120 = .ok (.iastore, 1) := by decide +kernel
theorem dX7_leave_121 : decode cX7_leave 121 = .ok (.aload_n 0, 1) := by decide +kernel
theorem dX7_leave_122 : decode cX7_leave 122 = .ok (.iload_n 3, 1) := by decide +kernel
theorem dX7_leave_123 : decode cX7_leave 123 = .ok (.ldc 181, 2) := by decide +kernel
theorem dX7_leave_125 : decode cX7_leave 125 = .ok (.invokevirtual 182, 3) := by decide +kernel
theorem dX7_leave_128 : decode cX7_leave 128 = .ok (.ireturn, 1) := by decide +kernel
theorem dX7_times_0 : decode cX7_times 0 = .ok (.aload_n 0, 1) := by decide +kernel
theorem dX7_times_1 : decode cX7_times 1 = .ok (.iload_n 1, 1) := by decide +kernel
theorem dX7_times_2 : decode cX7_times 2 = .ok (.invokevirtual 155, 3) := by decide +kernel
theorem dX7_times_5 : decode cX7_times 5 = .ok (.ifCond .ne 8, 3) := by decide +kernel
theorem dX7_times_8 : decode cX7_times 8 = .ok (.ldc 140, 2) := by decide +kernel
theorem dX7_times_10 : decode cX7_times 10 = .ok (.goto 17, 3) := by decide +kernel
theorem dX7_times_13 : decode cX7_times 13 = .ok (.aload_n 0, 1) := by decide +kernel
theorem dX7_times_14 : decode cX7_times 14 = .ok (.getfield 63, 3) := by decide +kernel
theorem dX7_times_17 : decode cX7_times 17 = .ok (.iload_n 1, 1) := by decide +kernel
theorem dX7_times_18 : decode cX7_times 18 = .ok (.baload, 1) := by decide +kernel
theorem dX7_times_19 : decode cX7_times 19 = .ok (.ifCond .eq 7, 3) := by decide +kernel
theorem dX7_times_22 : decode cX7_times 22 = .ok (.iconst 1, 1) := by decide +kernel
theorem dX7_times_23 : decode cX7_times 23 = .ok (.goto 4, 3) := by decide +kernel
theorem dX7_times_26 : decode cX7_times 26 = .ok (.iconst 0, 1) := by decide +kernel
theorem dX7_times_27 : decode cX7_times 27 = .ok (.ireturn, 1) := by decide +kernel
theorem dX7_audit_0 : decode cX7_audit 0 = .ok (.lconst 0, 1) := by decide +kernel
theorem dX7_audit_1 : decode cX7_audit 1 = .ok (.lstore_n 2, 1) := by decide +kernel
theorem dX7_audit_2 : decode cX7_audit 2 = .ok (.iload_n 1, 1) := by decide +kernel
theorem dX7_audit_3 : decode cX7_audit 3 = .ok (.tableswitch 192 0 2 #[25, 53, 124], 25) := by decide +kernel
theorem dX7_audit_28 : decode cX7_audit 28 = .ok (.iconst 0, 1) := by decide +kernel
theorem dX7_audit_29 : decode cX7_audit 29 = .ok (.istore 4, 2) := by decide +kernel
theorem dX7_audit_31 : decode cX7_audit 31 = .ok (.iload 4, 2) := by decide +kernel
theorem dX7_audit_33 : decode cX7_audit 33 = .ok (.bipush 24, 2) := by decide +kernel
theorem dX7_audit_35 : decode cX7_audit 35 = .ok (.if_icmp .ge 19, 3) := by decide +kernel
theorem dX7_audit_38 : decode cX7_audit 38 = .ok (.lload_n 2, 1) := by decide +kernel
theorem dX7_audit_39 : decode cX7_audit 39 = .ok (.aload_n 0, 1) := by decide +kernel
theorem dX7_audit_40 : decode cX7_audit 40 = .ok (.getfield 20, 3) := by decide +kernel
theorem dX7_audit_43 : decode cX7_audit 43 = .ok (.iload 4, 2) := by decide +kernel
theorem dX7_audit_45 : decode cX7_audit 45 = .ok (.laload, 1) := by decide +kernel
theorem dX7_audit_46 : decode cX7_audit 46 = .ok (.ladd, 1) := by decide +kernel
theorem dX7_audit_47 : decode cX7_audit 47 = .ok (.lstore_n 2, 1) := by decide +kernel
theorem dX7_audit_48 : decode cX7_audit 48 = .ok (.iinc 4 1, 3) := by decide +kernel
theorem dX7_audit_51 : decode cX7_audit 51 = .ok (.goto (-20), 3) := by decide +kernel
theorem dX7_audit_54 : decode cX7_audit 54 = .ok (.lload_n 2, 1) := by decide +kernel
theorem dX7_audit_55 : decode cX7_audit 55 = .ok (.lreturn, 1) := by decide +kernel
theorem dX7_audit_56 : decode cX7_audit 56 = .ok (.iconst 0, 1) := by decide +kernel
theorem dX7_audit_57 : decode cX7_audit 57 = .ok (.istore 4, 2) := by decide +kernel
theorem dX7_audit_59 : decode cX7_audit 59 = .ok (.iload 4, 2) := by decide +kernel
theorem dX7_audit_61 : decode cX7_audit 61 = .ok (.aload_n 0, 1) := by decide +kernel
theorem dX7_audit_62 : decode cX7_audit 62 = .ok (.getfield 106, 3) := by decide +kernel
theorem dX7_audit_65 : decode cX7_audit 65 = .ok (.if_icmp .ge 60, 3) := by decide +kernel
theorem dX7_audit_68 : decode cX7_audit 68 = .ok (.lload_n 2, 1) := by decide +kernel
theorem dX7_audit_69 : decode cX7_audit 69 = .ok (.aload_n 0, 1) := by decide +kernel
theorem dX7_audit_70 : decode cX7_audit 70 = .ok (.getfield 36, 3) := by decide +kernel
theorem dX7_audit_73 : decode cX7_audit 73 = .ok (.iload 4, 2) := by decide +kernel
theorem dX7_audit_75 : decode cX7_audit 75 = .ok (.iaload, 1) := by decide +kernel
theorem dX7_audit_76 : decode cX7_audit 76 = .ok (.iconst 3, 1) := by decide +kernel
theorem dX7_audit_77 : decode cX7_audit 77 = .ok (.if_icmp .ne 39, 3) := by decide +kernel
theorem dX7_audit_80 : decode cX7_audit 80 = .ok (.aload_n 0, 1) := by decide +kernel
theorem dX7_audit_81 : decode cX7_audit 81 = .ok (.getfield 63, 3) := by decide +kernel
theorem dX7_audit_84 : decode cX7_audit 84 = .ok (.iload 4, 2) := by decide +kernel
theorem dX7_audit_86 : decode cX7_audit 86 = .ok (.baload, 1) := by decide +kernel
theorem dX7_audit_87 : decode cX7_audit 87 = .ok (.ifCond .eq 29, 3) := by decide +kernel
theorem dX7_audit_90 : decode cX7_audit 90 = .ok (.aload_n 0, 1) := by decide +kernel
theorem dX7_audit_91 : decode cX7_audit 91 = .ok (.getfield 63, 3) := by decide +kernel
theorem dX7_audit_94 : decode cX7_audit 94 = .ok (.aload_n 0, 1) := by decide +kernel
theorem dX7_audit_95 : decode cX7_audit 95 = .ok (.getfield 60, 3) := by decide +kernel
theorem dX7_audit_98 : decode cX7_audit 98 = .ok (.iload 4, 2) := by decide +kernel
theorem dX7_audit_100 : decode cX7_audit 100 = .ok (.iaload, 1) := by decide +kernel
theorem dX7_audit_101 : decode cX7_audit 101 = .ok (.baload, 1) := by decide +kernel
theorem dX7_audit_102 : decode cX7_audit 102 = .ok (.ifCond .ne 14, 3) := by decide +kernel
theorem dX7_audit_105 : decode cX7_audit 105 = .ok (.aload_n 0, 1) := by decide +kernel
theorem dX7_audit_106 : decode cX7_audit 106 = .ok (.getfield 48, 3) := by decide +kernel
theorem dX7_audit_109 : decode cX7_audit 109 = .ok (.iload 4, 2) := by decide +kernel
theorem dX7_audit_111 : decode cX7_audit 111 = .ok (.iaload, 1) := by decide +kernel
theorem dX7_audit_112 : decode cX7_audit 112 = .ok (.i2l, 1) := by decide +kernel
theorem dX7_audit_113 : decode cX7_audit 113 = .ok (.goto 4, 3) := by decide +kernel
theorem dX7_audit_116 : decode cX7_audit 116 = .ok (.lconst 0, 1) := by decide +kernel
theorem dX7_audit_117 : decode cX7_audit 117 = .ok (.ladd, 1) := by decide +kernel
theorem dX7_audit_118 : decode cX7_audit 118 = .ok (.lstore_n 2, 1) := by decide +kernel
theorem dX7_audit_119 : decode cX7_audit 119 = .ok (.iinc 4 1, 3) := by decide +kernel
theorem dX7_audit_122 : decode cX7_audit 122 = .ok (.goto (-63), 3) := by decide +kernel
theorem dX7_audit_125 : decode cX7_audit 125 = .ok (.lload_n 2, 1) := by decide +kernel
theorem dX7_audit_126 : decode cX7_audit 126 = .ok (.lreturn, 1) := by decide +kernel
theorem dX7_audit_127 : decode cX7_audit 127 = .ok (.iconst 0, 1) := by decide +kernel
theorem dX7_audit_128 : decode cX7_audit 128 = .ok (.istore 4, 2) := by decide +kernel
theorem dX7_audit_130 : decode cX7_audit 130 = .ok (.iload 4, 2) := by decide +kernel
theorem dX7_audit_132 : decode cX7_audit 132 = .ok (.aload_n 0, 1) := by decide +kernel
theorem dX7_audit_133 : decode cX7_audit 133 = .ok (.getfield 106, 3) := by decide +kernel
theorem dX7_audit_136 : decode cX7_audit 136 = .ok (.if_icmp .ge 57, 3) := by decide +kernel
theorem dX7_audit_139 : decode cX7_audit 139 = .ok (.lload_n 2, 1) := by decide +kernel
theorem dX7_audit_140 : decode cX7_audit 140 = .ok (.aload_n 0, 1) := by decide +kernel
theorem dX7_audit_141 : decode cX7_audit 141 = .ok (.getfield 36, 3) := by decide +kernel
theorem dX7_audit_144 : decode cX7_audit 144 = .ok (.iload 4, 2) := by decide +kernel
theorem dX7_audit_146 : decode cX7_audit 146 = .ok (.iaload, 1) := by decide +kernel
theorem dX7_audit_147 : decode cX7_audit 147 = .ok (.iconst 1, 1) := by decide +kernel
theorem dX7_audit_148 : decode cX7_audit 148 = .ok (.if_icmp .ne 36, 3) := by decide +kernel
theorem dX7_audit_151 : decode cX7_audit 151 = .ok (.aload_n 0, 1) := by decide +kernel
theorem dX7_audit_152 : decode cX7_audit 152 = .ok (.getfield 24, 3) := by decide +kernel
theorem dX7_audit_155 : decode cX7_audit 155 = .ok (.iload 4, 2) := by decide +kernel
theorem dX7_audit_157 : decode cX7_audit 157 = .ok (.iaload, 1) := by decide +kernel
theorem dX7_audit_158 : decode cX7_audit 158 = .ok (.bipush 6, 2) := by decide +kernel
theorem dX7_audit_160 : decode cX7_audit 160 = .ok (.if_icmp .ge 24, 3) := by decide +kernel
theorem dX7_audit_163 : decode cX7_audit 163 = .ok (.aload_n 0, 1) := by decide +kernel
theorem dX7_audit_164 : decode cX7_audit 164 = .ok (.getfield 63, 3) := by decide +kernel
theorem dX7_audit_167 : decode cX7_audit 167 = .ok (.iload 4, 2) := by decide +kernel
theorem dX7_audit_169 : decode cX7_audit 169 = .ok (.baload, 1) := by decide +kernel
theorem dX7_audit_170 : decode cX7_audit 170 = .ok (.ifCond .eq 14, 3) := by decide +kernel
theorem dX7_audit_173 : decode cX7_audit 173 = .ok (.aload_n 0, 1) := by decide +kernel
theorem dX7_audit_174 : decode cX7_audit 174 = .ok (.getfield 48, 3) := by decide +kernel
theorem dX7_audit_177 : decode cX7_audit 177 = .ok (.iload 4, 2) := by decide +kernel
theorem dX7_audit_179 : decode cX7_audit 179 = .ok (.iaload, 1) := by decide +kernel
theorem dX7_audit_180 : decode cX7_audit 180 = .ok (.i2l, 1) := by decide +kernel
theorem dX7_audit_181 : decode cX7_audit 181 = .ok (.goto 4, 3) := by decide +kernel
theorem dX7_audit_184 : decode cX7_audit 184 = .ok (.lconst 0, 1) := by decide +kernel
theorem dX7_audit_185 : decode cX7_audit 185 = .ok (.ladd, 1) := by decide +kernel
theorem dX7_audit_186 : decode cX7_audit 186 = .ok (.lstore_n 2, 1) := by decide +kernel
theorem dX7_audit_187 : decode cX7_audit 187 = .ok (.iinc 4 1, 3) := by decide +kernel
theorem dX7_audit_190 : decode cX7_audit 190 = .ok (.goto (-60), 3) := by decide +kernel
theorem dX7_audit_193 : decode cX7_audit 193 = .ok (.lload_n 2, 1) := by decide +kernel
theorem dX7_audit_194 : decode cX7_audit 194 = .ok (.lreturn, 1) := by decide +kernel
theorem dX7_audit_195 : decode cX7_audit 195 = .ok (.ldc2_w 158, 3) := by decide +kernel
theorem dX7_audit_198 : decode cX7_audit 198 = .ok (.lreturn, 1) := by decide +kernel
theorem dX7_witnessOf_0 : decode cX7_witnessOf 0 = .ok (.ldc2_w 243, 3) := by decide +kernel
theorem dX7_witnessOf_3 : decode cX7_witnessOf 3 = .ok (.lstore_n 2, 1) := by decide +kernel
theorem dX7_witnessOf_4 : decode cX7_witnessOf 4 = .ok (.ldc2_w 245, 3) := by decide +kernel
theorem dX7_witnessOf_7 : decode cX7_witnessOf 7 = .ok (.lload_n 2, 1) := by decide +kernel
theorem dX7_witnessOf_8 : decode cX7_witnessOf 8 = .ok (.lmul, 1) := by decide +kernel
theorem dX7_witnessOf_9 : decode cX7_witnessOf 9 = .ok (.aload_n 0, 1) := by decide +kernel
theorem dX7_witnessOf_10 : decode cX7_witnessOf 10 = .ok (.getfield 24, 3) := by decide +kernel
theorem dX7_witnessOf_13 : decode cX7_witnessOf 13 = .ok (.iload_n 1, 1) := by decide +kernel
theorem dX7_witnessOf_14 : decode cX7_witnessOf 14 = .ok (.iaload, 1) := by decide +kernel
theorem dX7_witnessOf_15 : decode cX7_witnessOf 15 = .ok (.i2l, 1) := by decide +kernel
theorem dX7_witnessOf_16 : decode cX7_witnessOf 16 = .ok (.ladd, 1) := by decide +kernel
theorem dX7_witnessOf_17 : decode cX7_witnessOf 17 = .ok (.lstore_n 2, 1) := by decide +kernel
theorem dX7_witnessOf_18 : decode cX7_witnessOf 18 = .ok (.ldc2_w 245, 3) := by decide +kernel
theorem dX7_witnessOf_21 : decode cX7_witnessOf 21 = .ok (.lload_n 2, 1) := by decide +kernel
theorem dX7_witnessOf_22 : decode cX7_witnessOf 22 = .ok (.lmul, 1) := by decide +kernel
theorem dX7_witnessOf_23 : decode cX7_witnessOf 23 = .ok (.aload_n 0, 1) := by decide +kernel
theorem dX7_witnessOf_24 : decode cX7_witnessOf 24 = .ok (.getfield 27, 3) := by decide +kernel
theorem dX7_witnessOf_27 : decode cX7_witnessOf 27 = .ok (.iload_n 1, 1) := by decide +kernel
theorem dX7_witnessOf_28 : decode cX7_witnessOf 28 = .ok (.iaload, 1) := by decide +kernel
theorem dX7_witnessOf_29 : decode cX7_witnessOf 29 = .ok (.i2l, 1) := by decide +kernel
theorem dX7_witnessOf_30 : decode cX7_witnessOf 30 = .ok (.ladd, 1) := by decide +kernel
theorem dX7_witnessOf_31 : decode cX7_witnessOf 31 = .ok (.lstore_n 2, 1) := by decide +kernel
theorem dX7_witnessOf_32 : decode cX7_witnessOf 32 = .ok (.ldc2_w 245, 3) := by decide +kernel
theorem dX7_witnessOf_35 : decode cX7_witnessOf 35 = .ok (.lload_n 2, 1) := by decide +kernel
theorem dX7_witnessOf_36 : decode cX7_witnessOf 36 = .ok (.lmul, 1) := by decide +kernel
theorem dX7_witnessOf_37 : decode cX7_witnessOf 37 = .ok (.aload_n 0, 1) := by decide +kernel
theorem dX7_witnessOf_38 : decode cX7_witnessOf 38 = .ok (.getfield 30, 3) := by decide +kernel
theorem dX7_witnessOf_41 : decode cX7_witnessOf 41 = .ok (.iload_n 1, 1) := by decide +kernel
theorem dX7_witnessOf_42 : decode cX7_witnessOf 42 = .ok (.iaload, 1) := by decide +kernel
theorem dX7_witnessOf_43 : decode cX7_witnessOf 43 = .ok (.i2l, 1) := by decide +kernel
theorem dX7_witnessOf_44 : decode cX7_witnessOf 44 = .ok (.ladd, 1) := by decide +kernel
theorem dX7_witnessOf_45 : decode cX7_witnessOf 45 = .ok (.lstore_n 2, 1) := by decide +kernel
theorem dX7_witnessOf_46 : decode cX7_witnessOf 46 = .ok (.ldc2_w 245, 3) := by decide +kernel
theorem dX7_witnessOf_49 : decode cX7_witnessOf 49 = .ok (.lload_n 2, 1) := by decide +kernel
theorem dX7_witnessOf_50 : decode cX7_witnessOf 50 = .ok (.lmul, 1) := by decide +kernel
theorem dX7_witnessOf_51 : decode cX7_witnessOf 51 = .ok (.aload_n 0, 1) := by decide +kernel
theorem dX7_witnessOf_52 : decode cX7_witnessOf 52 = .ok (.getfield 33, 3) := by decide +kernel
theorem dX7_witnessOf_55 : decode cX7_witnessOf 55 = .ok (.iload_n 1, 1) := by decide +kernel
theorem dX7_witnessOf_56 : decode cX7_witnessOf 56 = .ok (.iaload, 1) := by decide +kernel
theorem dX7_witnessOf_57 : decode cX7_witnessOf 57 = .ok (.i2l, 1) := by decide +kernel
theorem dX7_witnessOf_58 : decode cX7_witnessOf 58 = .ok (.ladd, 1) := by decide +kernel
theorem dX7_witnessOf_59 : decode cX7_witnessOf 59 = .ok (.lstore_n 2, 1) := by decide +kernel
theorem dX7_witnessOf_60 : decode cX7_witnessOf 60 = .ok (.ldc2_w 245, 3) := by decide +kernel
theorem dX7_witnessOf_63 : decode cX7_witnessOf 63 = .ok (.lload_n 2, 1) := by decide +kernel
theorem dX7_witnessOf_64 : decode cX7_witnessOf 64 = .ok (.lmul, 1) := by decide +kernel
theorem dX7_witnessOf_65 : decode cX7_witnessOf 65 = .ok (.aload_n 0, 1) := by decide +kernel
theorem dX7_witnessOf_66 : decode cX7_witnessOf 66 = .ok (.getfield 36, 3) := by decide +kernel
theorem dX7_witnessOf_69 : decode cX7_witnessOf 69 = .ok (.iload_n 1, 1) := by decide +kernel
theorem dX7_witnessOf_70 : decode cX7_witnessOf 70 = .ok (.iaload, 1) := by decide +kernel
theorem dX7_witnessOf_71 : decode cX7_witnessOf 71 = .ok (.i2l, 1) := by decide +kernel
theorem dX7_witnessOf_72 : decode cX7_witnessOf 72 = .ok (.ladd, 1) := by decide +kernel
theorem dX7_witnessOf_73 : decode cX7_witnessOf 73 = .ok (.lstore_n 2, 1) := by decide +kernel
theorem dX7_witnessOf_74 : decode cX7_witnessOf 74 = .ok (.ldc2_w 245, 3) := by decide +kernel
theorem dX7_witnessOf_77 : decode cX7_witnessOf 77 = .ok (.lload_n 2, 1) := by decide +kernel
theorem dX7_witnessOf_78 : decode cX7_witnessOf 78 = .ok (.lmul, 1) := by decide +kernel
theorem dX7_witnessOf_79 : decode cX7_witnessOf 79 = .ok (.aload_n 0, 1) := by decide +kernel
theorem dX7_witnessOf_80 : decode cX7_witnessOf 80 = .ok (.getfield 54, 3) := by decide +kernel
theorem dX7_witnessOf_83 : decode cX7_witnessOf 83 = .ok (.iload_n 1, 1) := by decide +kernel
theorem dX7_witnessOf_84 : decode cX7_witnessOf 84 = .ok (.laload, 1) := by decide +kernel
theorem dX7_witnessOf_85 : decode cX7_witnessOf 85 = .ok (.ladd, 1) := by decide +kernel
theorem dX7_witnessOf_86 : decode cX7_witnessOf 86 = .ok (.lreturn, 1) := by decide +kernel
theorem dX7_witness_0 : decode cX7_witness 0 = .ok (.aload_n 0, 1) := by decide +kernel
theorem dX7_witness_1 : decode cX7_witness 1 = .ok (.iload_n 1, 1) := by decide +kernel
theorem dX7_witness_2 : decode cX7_witness 2 = .ok (.invokevirtual 155, 3) := by decide +kernel
theorem dX7_witness_5 : decode cX7_witness 5 = .ok (.ifCond .ne 9, 3) := by decide +kernel
theorem dX7_witness_8 : decode cX7_witness 8 = .ok (.ldc2_w 158, 3) := by decide +kernel
theorem dX7_witness_11 : decode cX7_witness 11 = .ok (.goto 24, 3) := by decide +kernel
theorem dX7_witness_14 : decode cX7_witness 14 = .ok (.aload_n 0, 1) := by decide +kernel
theorem dX7_witness_15 : decode cX7_witness 15 = .ok (.getfield 51, 3) := by decide +kernel
theorem dX7_witness_18 : decode cX7_witness 18 = .ok (.iload_n 1, 1) := by decide +kernel
theorem dX7_witness_19 : decode cX7_witness 19 = .ok (.iaload, 1) := by decide +kernel
theorem dX7_witness_20 : decode cX7_witness 20 = .ok (.iconst 1, 1) := by decide +kernel
theorem dX7_witness_21 : decode cX7_witness 21 = .ok (.if_icmp .eq 9, 3) := by decide +kernel
theorem dX7_witness_24 : decode cX7_witness 24 = .ok (.ldc2_w 160, 3) := by decide +kernel
theorem dX7_witness_27 : decode cX7_witness 27 = .ok (.goto 8, 3) := by decide +kernel
theorem dX7_witness_30 : decode cX7_witness 30 = .ok (.aload_n 0, 1) := by decide +kernel
theorem dX7_witness_31 : decode cX7_witness 31 = .ok (.iload_n 1, 1) := by decide +kernel
theorem dX7_witness_32 : decode cX7_witness 32 = .ok (.invokevirtual 247, 3) := by decide +kernel
theorem dX7_witness_35 : decode cX7_witness 35 = .ok (.lreturn, 1) := by decide +kernel
theorem dX7_check_0 : decode cX7_check 0 = .ok (.aload_n 0, 1) := by decide +kernel
theorem dX7_check_1 : decode cX7_check 1 = .ok (.iload_n 1, 1) := by decide +kernel
theorem dX7_check_2 : decode cX7_check 2 = .ok (.invokevirtual 155, 3) := by decide +kernel
theorem dX7_check_5 : decode cX7_check 5 = .ok (.ifCond .ne 8, 3) := by decide +kernel
theorem dX7_check_8 : decode cX7_check 8 = .ok (.ldc 140, 2) := by decide +kernel
theorem dX7_check_10 : decode cX7_check 10 = .ok (.goto 28, 3) := by decide +kernel
theorem dX7_check_13 : decode cX7_check 13 = .ok (.aload_n 0, 1) := by decide +kernel
theorem dX7_check_14 : decode cX7_check 14 = .ok (.getfield 51, 3) := by decide +kernel
theorem dX7_check_17 : decode cX7_check 17 = .ok (.iload_n 1, 1) := by decide +kernel
theorem dX7_check_18 : decode cX7_check 18 = .ok (.iaload, 1) := by decide +kernel
theorem dX7_check_19 : decode cX7_check 19 = .ok (.iconst 1, 1) := by decide +kernel
theorem dX7_check_20 : decode cX7_check 20 = .ok (.if_icmp .ne 17, 3) := by decide +kernel
theorem dX7_check_23 : decode cX7_check 23 = .ok (.aload_n 0, 1) := by decide +kernel
theorem dX7_check_24 : decode cX7_check 24 = .ok (.iload_n 1, 1) := by decide +kernel
theorem dX7_check_25 : decode cX7_check 25 = .ok (.invokevirtual 247, 3) := by decide +kernel
theorem dX7_check_28 : decode cX7_check 28 = .ok (.lload_n 2, 1) := by decide +kernel
theorem dX7_check_29 : decode cX7_check 29 = .ok (.lcmp, 1) := by decide +kernel
theorem dX7_check_30 : decode cX7_check 30 = .ok (.ifCond .ne 7, 3) := by decide +kernel
theorem dX7_check_33 : decode cX7_check 33 = .ok (.iconst 1, 1) := by decide +kernel
theorem dX7_check_34 : decode cX7_check 34 = .ok (.goto 4, 3) := by decide +kernel
theorem dX7_check_37 : decode cX7_check 37 = .ok (.iconst 0, 1) := by decide +kernel
theorem dX7_check_38 : decode cX7_check 38 = .ok (.ireturn, 1) := by decide +kernel
theorem dX7_count_0 : decode cX7_count 0 = .ok (.iconst 0, 1) := by decide +kernel
theorem dX7_count_1 : decode cX7_count 1 = .ok (.istore_n 2, 1) := by decide +kernel
theorem dX7_count_2 : decode cX7_count 2 = .ok (.iload_n 1, 1) := by decide +kernel
theorem dX7_count_3 : decode cX7_count 3 = .ok (.tableswitch 115 0 7 #[45, 50, 85, 90, 95, 100, 105, 110], 45) := by decide +kernel
theorem dX7_count_48 : decode cX7_count 48 = .ok (.aload_n 0, 1) := by decide +kernel
theorem dX7_count_49 : decode cX7_count 49 = .ok (.getfield 106, 3) := by decide +kernel
theorem dX7_count_52 : decode cX7_count 52 = .ok (.ireturn, 1) := by decide +kernel
theorem dX7_count_53 : decode cX7_count 53 = .ok (.iconst 0, 1) := by decide +kernel
theorem dX7_count_54 : decode cX7_count 54 = .ok (.istore_n 3, 1) := by decide +kernel
theorem dX7_count_55 : decode cX7_count 55 = .ok (.iload_n 3, 1) := by decide +kernel
theorem dX7_count_56 : decode cX7_count 56 = .ok (.aload_n 0, 1) := by decide +kernel
theorem dX7_count_57 : decode cX7_count 57 = .ok (.getfield 106, 3) := by decide +kernel
theorem dX7_count_60 : decode cX7_count 60 = .ok (.if_icmp .ge 26, 3) := by decide +kernel
theorem dX7_count_63 : decode cX7_count 63 = .ok (.iload_n 2, 1) := by decide +kernel
theorem dX7_count_64 : decode cX7_count 64 = .ok (.aload_n 0, 1) := by decide +kernel
theorem dX7_count_65 : decode cX7_count 65 = .ok (.getfield 51, 3) := by decide +kernel
theorem dX7_count_68 : decode cX7_count 68 = .ok (.iload_n 3, 1) := by decide +kernel
theorem dX7_count_69 : decode cX7_count 69 = .ok (.iaload, 1) := by decide +kernel
theorem dX7_count_70 : decode cX7_count 70 = .ok (.ifCond .ne 7, 3) := by decide +kernel
theorem dX7_count_73 : decode cX7_count 73 = .ok (.iconst 1, 1) := by decide +kernel
theorem dX7_count_74 : decode cX7_count 74 = .ok (.goto 4, 3) := by decide +kernel
theorem dX7_count_77 : decode cX7_count 77 = .ok (.iconst 0, 1) := by decide +kernel
theorem dX7_count_78 : decode cX7_count 78 = .ok (.iadd, 1) := by decide +kernel
theorem dX7_count_79 : decode cX7_count 79 = .ok (.istore_n 2, 1) := by decide +kernel
theorem dX7_count_80 : decode cX7_count 80 = .ok (.iinc 3 1, 3) := by decide +kernel
theorem dX7_count_83 : decode cX7_count 83 = .ok (.goto (-28), 3) := by decide +kernel
theorem dX7_count_86 : decode cX7_count 86 = .ok (.iload_n 2, 1) := by decide +kernel
theorem dX7_count_87 : decode cX7_count 87 = .ok (.ireturn, 1) := by decide +kernel
theorem dX7_count_88 : decode cX7_count 88 = .ok (.aload_n 0, 1) := by decide +kernel
theorem dX7_count_89 : decode cX7_count 89 = .ok (.getfield 124, 3) := by decide +kernel
theorem dX7_count_92 : decode cX7_count 92 = .ok (.ireturn, 1) := by decide +kernel
theorem dX7_count_93 : decode cX7_count 93 = .ok (.aload_n 0, 1) := by decide +kernel
theorem dX7_count_94 : decode cX7_count 94 = .ok (.getfield 222, 3) := by decide +kernel
theorem dX7_count_97 : decode cX7_count 97 = .ok (.ireturn, 1) := by decide +kernel
theorem dX7_count_98 : decode cX7_count 98 = .ok (.aload_n 0, 1) := by decide +kernel
theorem dX7_count_99 : decode cX7_count 99 = .ok (.getfield 127, 3) := by decide +kernel
theorem dX7_count_102 : decode cX7_count 102 = .ok (.ireturn, 1) := by decide +kernel
theorem dX7_count_103 : decode cX7_count 103 = .ok (.aload_n 0, 1) := by decide +kernel
theorem dX7_count_104 : decode cX7_count 104 = .ok (.getfield 215, 3) := by decide +kernel
theorem dX7_count_107 : decode cX7_count 107 = .ok (.ireturn, 1) := by decide +kernel
theorem dX7_count_108 : decode cX7_count 108 = .ok (.aload_n 0, 1) := by decide +kernel
theorem dX7_count_109 : decode cX7_count 109 = .ok (.getfield 166, 3) := by decide +kernel
theorem dX7_count_112 : decode cX7_count 112 = .ok (.ireturn, 1) := by decide +kernel
theorem dX7_count_113 : decode cX7_count 113 = .ok (.aload_n 0, 1) := by decide +kernel
theorem dX7_count_114 : decode cX7_count 114 = .ok (.getfield 102, 3) := by decide +kernel
theorem dX7_count_117 : decode cX7_count 117 = .ok (.ireturn, 1) := by decide +kernel
theorem dX7_count_118 : decode cX7_count 118 = .ok (.ldc 140, 2) := by decide +kernel
theorem dX7_count_120 : decode cX7_count 120 = .ok (.ireturn, 1) := by decide +kernel
