theorem dX8_init_0 : decode cX8_init 0 = .ok (.aload_n 0, 1) := by decide +kernel
theorem dX8_init_1 : decode cX8_init 1 = .ok (.invokespecial 1, 3) := by decide +kernel
theorem dX8_init_4 : decode cX8_init 4 = .ok (.aload_n 0, 1) := by decide +kernel
theorem dX8_init_5 : decode cX8_init 5 = .ok (.bipush 8, 2) := by decide +kernel
theorem dX8_init_7 : decode cX8_init 7 = .ok (.newarray .int, 2) := by decide +kernel
theorem dX8_init_9 : decode cX8_init 9 = .ok (.putfield 7, 3) := by decide +kernel
theorem dX8_init_12 : decode cX8_init 12 = .ok (.aload_n 0, 1) := by decide +kernel
theorem dX8_init_13 : decode cX8_init 13 = .ok (.sipush 300, 3) := by decide +kernel
theorem dX8_init_16 : decode cX8_init 16 = .ok (.newarray .boolean, 2) := by decide +kernel
theorem dX8_init_18 : decode cX8_init 18 = .ok (.putfield 13, 3) := by decide +kernel
theorem dX8_init_21 : decode cX8_init 21 = .ok (.aload_n 0, 1) := by decide +kernel
theorem dX8_init_22 : decode cX8_init 22 = .ok (.sipush 300, 3) := by decide +kernel
theorem dX8_init_25 : decode cX8_init 25 = .ok (.newarray .long, 2) := by decide +kernel
theorem dX8_init_27 : decode cX8_init 27 = .ok (.putfield 17, 3) := by decide +kernel
theorem dX8_init_30 : decode cX8_init 30 = .ok (.aload_n 0, 1) := by decide +kernel
theorem dX8_init_31 : decode cX8_init 31 = .ok (.sipush 300, 3) := by decide +kernel
theorem dX8_init_34 : decode cX8_init 34 = .ok (.newarray .long, 2) := by decide +kernel
theorem dX8_init_36 : decode cX8_init 36 = .ok (.putfield 21, 3) := by decide +kernel
theorem dX8_init_39 : decode cX8_init 39 = .ok (.aload_n 0, 1) := by decide +kernel
theorem dX8_init_40 : decode cX8_init 40 = .ok (.sipush 300, 3) := by decide +kernel
theorem dX8_init_43 : decode cX8_init 43 = .ok (.newarray .int, 2) := by decide +kernel
theorem dX8_init_45 : decode cX8_init 45 = .ok (.putfield 24, 3) := by decide +kernel
theorem dX8_init_48 : decode cX8_init 48 = .ok (.aload_n 0, 1) := by decide +kernel
theorem dX8_init_49 : decode cX8_init 49 = .ok (.sipush 300, 3) := by decide +kernel
theorem dX8_init_52 : decode cX8_init 52 = .ok (.newarray .int, 2) := by decide +kernel
theorem dX8_init_54 : decode cX8_init 54 = .ok (.putfield 27, 3) := by decide +kernel
theorem dX8_init_57 : decode cX8_init 57 = .ok (.aload_n 0, 1) := by decide +kernel
theorem dX8_init_58 : decode cX8_init 58 = .ok (.sipush 300, 3) := by decide +kernel
theorem dX8_init_61 : decode cX8_init 61 = .ok (.newarray .long, 2) := by decide +kernel
theorem dX8_init_63 : decode cX8_init 63 = .ok (.putfield 30, 3) := by decide +kernel
theorem dX8_init_66 : decode cX8_init 66 = .ok (.aload_n 0, 1) := by decide +kernel
theorem dX8_init_67 : decode cX8_init 67 = .ok (.sipush 300, 3) := by decide +kernel
theorem dX8_init_70 : decode cX8_init 70 = .ok (.newarray .int, 2) := by decide +kernel
theorem dX8_init_72 : decode cX8_init 72 = .ok (.putfield 33, 3) := by decide +kernel
theorem dX8_init_75 : decode cX8_init 75 = .ok (.aload_n 0, 1) := by decide +kernel
theorem dX8_init_76 : decode cX8_init 76 = .ok (.sipush 300, 3) := by decide +kernel
theorem dX8_init_79 : decode cX8_init 79 = .ok (.newarray .int, 2) := by decide +kernel
theorem dX8_init_81 : decode cX8_init 81 = .ok (.putfield 36, 3) := by decide +kernel
theorem dX8_init_84 : decode cX8_init 84 = .ok (.aload_n 0, 1) := by decide +kernel
theorem dX8_init_85 : decode cX8_init 85 = .ok (.sipush 300, 3) := by decide +kernel
theorem dX8_init_88 : decode cX8_init 88 = .ok (.newarray .int, 2) := by decide +kernel
theorem dX8_init_90 : decode cX8_init 90 = .ok (.putfield 39, 3) := by decide +kernel
theorem dX8_init_93 : decode cX8_init 93 = .ok (.aload_n 0, 1) := by decide +kernel
theorem dX8_init_94 : decode cX8_init 94 = .ok (.sipush 300, 3) := by decide +kernel
theorem dX8_init_97 : decode cX8_init 97 = .ok (.newarray .int, 2) := by decide +kernel
theorem dX8_init_99 : decode cX8_init 99 = .ok (.putfield 42, 3) := by decide +kernel
theorem dX8_init_102 : decode cX8_init 102 = .ok (.aload_n 0, 1) := by decide +kernel
theorem dX8_init_103 : decode cX8_init 103 = .ok (.sipush 300, 3) := by decide +kernel
theorem dX8_init_106 : decode cX8_init 106 = .ok (.newarray .int, 2) := by decide +kernel
theorem dX8_init_108 : decode cX8_init 108 = .ok (.putfield 45, 3) := by decide +kernel
theorem dX8_init_111 : decode cX8_init 111 = .ok (.aload_n 0, 1) := by decide +kernel
theorem dX8_init_112 : decode cX8_init 112 = .ok (.sipush 200, 3) := by decide +kernel
theorem dX8_init_115 : decode cX8_init 115 = .ok (.newarray .int, 2) := by decide +kernel
theorem dX8_init_117 : decode cX8_init 117 = .ok (.putfield 48, 3) := by decide +kernel
theorem dX8_init_120 : decode cX8_init 120 = .ok (.aload_n 0, 1) := by decide +kernel
theorem dX8_init_121 : decode cX8_init 121 = .ok (.sipush 200, 3) := by decide +kernel
theorem dX8_init_124 : decode cX8_init 124 = .ok (.newarray .int, 2) := by decide +kernel
theorem dX8_init_126 : decode cX8_init 126 = .ok (.putfield 51, 3) := by decide +kernel
theorem dX8_init_129 : decode cX8_init 129 = .ok (.aload_n 0, 1) := by decide +kernel
theorem dX8_init_130 : decode cX8_init 130 = .ok (.sipush 200, 3) := by decide +kernel
theorem dX8_init_133 : decode cX8_init 133 = .ok (.newarray .long, 2) := by decide +kernel
theorem dX8_init_135 : decode cX8_init 135 = .ok (.putfield 54, 3) := by decide +kernel
theorem dX8_init_138 : decode cX8_init 138 = .ok (.aload_n 0, 1) := by decide +kernel
theorem dX8_init_139 : decode cX8_init 139 = .ok (.iconst 2, 1) := by decide +kernel
theorem dX8_init_140 : decode cX8_init 140 = .ok (.newarray .int, 2) := by decide +kernel
theorem dX8_init_142 : decode cX8_init 142 = .ok (.putfield 57, 3) := by decide +kernel
theorem dX8_init_145 : decode cX8_init 145 = .ok (.aload_n 0, 1) := by decide +kernel
theorem dX8_init_146 : decode cX8_init 146 = .ok (.sipush 300, 3) := by decide +kernel
theorem dX8_init_149 : decode cX8_init 149 = .ok (.newarray .int, 2) := by decide +kernel
theorem dX8_init_151 : decode cX8_init 151 = .ok (.putfield 60, 3) := by decide +kernel
theorem dX8_init_154 : decode cX8_init 154 = .ok (.aload_n 0, 1) := by decide +kernel
theorem dX8_init_155 : decode cX8_init 155 = .ok (.sipush 300, 3) := by decide +kernel
theorem dX8_init_158 : decode cX8_init 158 = .ok (.newarray .boolean, 2) := by decide +kernel
theorem dX8_init_160 : decode cX8_init 160 = .ok (.putfield 63, 3) := by decide +kernel
theorem dX8_init_163 : decode cX8_init 163 = .ok (.aload_n 0, 1) := by decide +kernel
theorem dX8_init_164 : decode cX8_init 164 = .ok (.sipush 300, 3) := by decide +kernel
theorem dX8_init_167 : decode cX8_init 167 = .ok (.newarray .long, 2) := by decide +kernel
theorem dX8_init_169 : decode cX8_init 169 = .ok (.putfield 66, 3) := by decide +kernel
theorem dX8_init_172 : decode cX8_init 172 = .ok (.aload_n 0, 1) := by decide +kernel
theorem dX8_init_173 : decode cX8_init 173 = .ok (.bipush 8, 2) := by decide +kernel
theorem dX8_init_175 : decode cX8_init 175 = .ok (.newarray .long, 2) := by decide +kernel
theorem dX8_init_177 : decode cX8_init 177 = .ok (.putfield 69, 3) := by decide +kernel
theorem dX8_init_180 : decode cX8_init 180 = .ok (.aload_n 0, 1) := by decide +kernel
theorem dX8_init_181 : decode cX8_init 181 = .ok (.bipush 8, 2) := by decide +kernel
theorem dX8_init_183 : decode cX8_init 183 = .ok (.newarray .long, 2) := by decide +kernel
theorem dX8_init_185 : decode cX8_init 185 = .ok (.putfield 72, 3) := by decide +kernel
theorem dX8_init_188 : decode cX8_init 188 = .ok (.aload_n 0, 1) := by decide +kernel
theorem dX8_init_189 : decode cX8_init 189 = .ok (.bipush 8, 2) := by decide +kernel
theorem dX8_init_191 : decode cX8_init 191 = .ok (.newarray .int, 2) := by decide +kernel
theorem dX8_init_193 : decode cX8_init 193 = .ok (.putfield 75, 3) := by decide +kernel
theorem dX8_init_196 : decode cX8_init 196 = .ok (.aload_n 0, 1) := by decide +kernel
theorem dX8_init_197 : decode cX8_init 197 = .ok (.sipush 300, 3) := by decide +kernel
theorem dX8_init_200 : decode cX8_init 200 = .ok (.newarray .int, 2) := by decide +kernel
theorem dX8_init_202 : decode cX8_init 202 = .ok (.putfield 78, 3) := by decide +kernel
theorem dX8_init_205 : decode cX8_init 205 = .ok (.aload_n 0, 1) := by decide +kernel
theorem dX8_init_206 : decode cX8_init 206 = .ok (.sipush 300, 3) := by decide +kernel
theorem dX8_init_209 : decode cX8_init 209 = .ok (.newarray .int, 2) := by decide +kernel
theorem dX8_init_211 : decode cX8_init 211 = .ok (.putfield 81, 3) := by decide +kernel
theorem dX8_init_214 : decode cX8_init 214 = .ok (.aload_n 0, 1) := by decide +kernel
theorem dX8_init_215 : decode cX8_init 215 = .ok (.sipush 300, 3) := by decide +kernel
theorem dX8_init_218 : decode cX8_init 218 = .ok (.newarray .long, 2) := by decide +kernel
theorem dX8_init_220 : decode cX8_init 220 = .ok (.putfield 84, 3) := by decide +kernel
theorem dX8_init_223 : decode cX8_init 223 = .ok (.aload_n 0, 1) := by decide +kernel
theorem dX8_init_224 : decode cX8_init 224 = .ok (.sipush 300, 3) := by decide +kernel
theorem dX8_init_227 : decode cX8_init 227 = .ok (.newarray .int, 2) := by decide +kernel
theorem dX8_init_229 : decode cX8_init 229 = .ok (.putfield 87, 3) := by decide +kernel
theorem dX8_init_232 : decode cX8_init 232 = .ok (.aload_n 0, 1) := by decide +kernel
theorem dX8_init_233 : decode cX8_init 233 = .ok (.iload_n 1, 1) := by decide +kernel
theorem dX8_init_234 : decode cX8_init 234 = .ok (.iconst 1, 1) := by decide +kernel
theorem dX8_init_235 : decode cX8_init 235 = .ok (.if_icmp .ge 7, 3) := by decide +kernel
theorem dX8_init_238 : decode cX8_init 238 = .ok (.iconst 1, 1) := by decide +kernel
theorem dX8_init_239 : decode cX8_init 239 = .ok (.goto 15, 3) := by decide +kernel
theorem dX8_init_242 : decode cX8_init 242 = .ok (.iload_n 1, 1) := by decide +kernel
theorem dX8_init_243 : decode cX8_init 243 = .ok (.bipush 16, 2) := by decide +kernel
theorem dX8_init_245 : decode cX8_init 245 = .ok (.if_icmp .le 8, 3) := by decide +kernel
theorem dX8_init_248 : decode cX8_init 248 = .ok (.bipush 16, 2) := by decide +kernel
theorem dX8_init_250 : decode cX8_init 250 = .ok (.goto 4, 3) := by decide +kernel
theorem dX8_init_253 : decode cX8_init 253 = .ok (.iload_n 1, 1) := by decide +kernel
theorem dX8_init_254 : decode cX8_init 254 = .ok (.putfield 90, 3) := by decide +kernel
theorem dX8_init_257 : decode cX8_init 257 = .ok (.aload_n 0, 1) := by decide +kernel
theorem dX8_init_258 : decode cX8_init 258 = .ok (.iload_n 2, 1) := by decide +kernel
theorem dX8_init_259 : decode cX8_init 259 = .ok (.iconst 1, 1) := by decide +kernel
theorem dX8_init_260 : decode cX8_init 260 = .ok (.iand, 1) := by decide +kernel
theorem dX8_init_261 : decode cX8_init 261 = .ok (.iconst 1, 1) := by decide +kernel
theorem dX8_init_262 : decode cX8_init 262 = .ok (.if_icmp .ne 7, 3) := by decide +kernel
theorem dX8_init_265 : decode cX8_init 265 = .ok (.iconst 1, 1) := by decide +kernel
theorem dX8_init_266 : decode cX8_init 266 = .ok (.goto 4, 3) := by decide +kernel
theorem dX8_init_269 : decode cX8_init 269 = .ok (.iconst 0, 1) := by decide +kernel
theorem dX8_init_270 : decode cX8_init 270 = .ok (.putfield 94, 3) := by decide +kernel
theorem dX8_init_273 : decode cX8_init 273 = .ok (.aload_n 0, 1) := by decide +kernel
theorem dX8_init_274 : decode cX8_init 274 = .ok (.getfield 7, 3) := by decide +kernel
theorem dX8_init_277 : decode cX8_init 277 = .ok (.iconst 0, 1) := by decide +kernel
theorem dX8_init_278 : decode cX8_init 278 = .ok (.bipush 10, 2) := by decide +kernel
theorem dX8_init_280 : decode cX8_init 280 = .ok (.iastore, 1) := by decide +kernel
theorem dX8_init_281 : decode cX8_init 281 = .ok (.aload_n 0, 1) := by decide +kernel
theorem dX8_init_282 : decode cX8_init 282 = .ok (.getfield 7, 3) := by decide +kernel
theorem dX8_init_285 : decode cX8_init 285 = .ok (.iconst 1, 1) := by decide +kernel
theorem dX8_init_286 : decode cX8_init 286 = .ok (.iconst 2, 1) := by decide +kernel
theorem dX8_init_287 : decode cX8_init 287 = .ok (.iastore, 1) := by decide +kernel
theorem dX8_init_288 : decode cX8_init 288 = .ok (.aload_n 0, 1) := by decide +kernel
theorem dX8_init_289 : decode cX8_init 289 = .ok (.getfield 7, 3) := by decide +kernel
theorem dX8_init_292 : decode cX8_init 292 = .ok (.iconst 2, 1) := by decide +kernel
theorem dX8_init_293 : decode cX8_init 293 = .ok (.bipush 20, 2) := by decide +kernel
theorem dX8_init_295 : decode cX8_init 295 = .ok (.iastore, 1) := by decide +kernel
theorem dX8_init_296 : decode cX8_init 296 = .ok (.aload_n 0, 1) := by decide +kernel
theorem dX8_init_297 : decode cX8_init 297 = .ok (.getfield 7, 3) := by decide +kernel
theorem dX8_init_300 : decode cX8_init 300 = .ok (.bipush 7, 2) := by decide +kernel
theorem dX8_init_302 : decode cX8_init 302 = .ok (.iconst 1, 1) := by decide +kernel
theorem dX8_init_303 : decode cX8_init 303 = .ok (.iastore, 1) := by decide +kernel
theorem dX8_init_304 : decode cX8_init 304 = .ok (.return_, 1) := by decide +kernel
theorem dX8_countOf_0 : decode cX8_countOf 0 = .ok (.iconst 0, 1) := by decide +kernel
theorem dX8_countOf_1 : decode cX8_countOf 1 = .ok (.istore_n 2, 1) := by decide +kernel
theorem dX8_countOf_2 : decode cX8_countOf 2 = .ok (.iconst 0, 1) := by decide +kernel
theorem dX8_countOf_3 : decode cX8_countOf 3 = .ok (.istore_n 3, 1) := by decide +kernel
theorem dX8_countOf_4 : decode cX8_countOf 4 = .ok (.iload_n 3, 1) := by decide +kernel
theorem dX8_countOf_5 : decode cX8_countOf 5 = .ok (.aload_n 0, 1) := by decide +kernel
theorem dX8_countOf_6 : decode cX8_countOf 6 = .ok (.getfield 98, 3) := by decide +kernel
theorem dX8_countOf_9 : decode cX8_countOf 9 = .ok (.if_icmp .ge 27, 3) := by decide +kernel
theorem dX8_countOf_12 : decode cX8_countOf 12 = .ok (.iload_n 2, 1) := by decide +kernel
theorem dX8_countOf_13 : decode cX8_countOf 13 = .ok (.aload_n 0, 1) := by decide +kernel
theorem dX8_countOf_14 : decode cX8_countOf 14 = .ok (.getfield 24, 3) := by decide +kernel
theorem dX8_countOf_17 : decode cX8_countOf 17 = .ok (.iload_n 3, 1) := by decide +kernel
theorem dX8_countOf_18 : decode cX8_countOf 18 = .ok (.iaload, 1) := by decide +kernel
theorem dX8_countOf_19 : decode cX8_countOf 19 = .ok (.iload_n 1, 1) := by decide +kernel
theorem dX8_countOf_20 : decode cX8_countOf 20 = .ok (.if_icmp .ne 7, 3) := by decide +kernel
theorem dX8_countOf_23 : decode cX8_countOf 23 = .ok (.iconst 1, 1) := by decide +kernel
theorem dX8_countOf_24 : decode cX8_countOf 24 = .ok (.goto 4, 3) := by decide +kernel
theorem dX8_countOf_27 : decode cX8_countOf 27 = .ok (.iconst 0, 1) := by decide +kernel
theorem dX8_countOf_28 : decode cX8_countOf 28 = .ok (.iadd, 1) := by decide +kernel
theorem dX8_countOf_29 : decode cX8_countOf 29 = .ok (.istore_n 2, 1) := by decide +kernel
theorem dX8_countOf_30 : decode cX8_countOf 30 = .ok (.iinc 3 1, 3) := by decide +kernel
theorem dX8_countOf_33 : decode cX8_countOf 33 = .ok (.goto (-29), 3) := by decide +kernel
theorem dX8_countOf_36 : decode cX8_countOf 36 = .ok (.iload_n 2, 1) := by decide +kernel
theorem dX8_countOf_37 : decode cX8_countOf 37 = .ok (.ireturn, 1) := by decide +kernel
theorem dX8_first_0 : decode cX8_first 0 = .ok (.iconst 0, 1) := by decide +kernel
theorem dX8_first_1 : decode cX8_first 1 = .ok (.istore_n 2, 1) := by decide +kernel
theorem dX8_first_2 : decode cX8_first 2 = .ok (.iload_n 2, 1) := by decide +kernel
theorem dX8_first_3 : decode cX8_first 3 = .ok (.aload_n 0, 1) := by decide +kernel
theorem dX8_first_4 : decode cX8_first 4 = .ok (.getfield 98, 3) := by decide +kernel
theorem dX8_first_7 : decode cX8_first 7 = .ok (.if_icmp .ge 19, 3) := by decide +kernel
theorem dX8_first_10 : decode cX8_first 10 = .ok (.aload_n 0, 1) := by decide +kernel
theorem dX8_first_11 : decode cX8_first 11 = .ok (.getfield 24, 3) := by decide +kernel
theorem dX8_first_14 : decode cX8_first 14 = .ok (.iload_n 2, 1) := by decide +kernel
theorem dX8_first_15 : decode cX8_first 15 = .ok (.iaload, 1) := by decide +kernel
theorem dX8_first_16 : decode cX8_first 16 = .ok (.iload_n 1, 1) := by decide +kernel
theorem dX8_first_17 : decode cX8_first 17 = .ok (.if_icmp .eq 9, 3) := by decide +kernel
theorem dX8_first_20 : decode cX8_first 20 = .ok (.iinc 2 1, 3) := by decide +kernel
theorem dX8_first_23 : decode cX8_first 23 = .ok (.goto (-21), 3) := by decide +kernel
theorem dX8_first_26 : decode cX8_first 26 = .ok (.iload_n 2, 1) := by decide +kernel
theorem dX8_first_27 : decode cX8_first 27 = .ok (.ireturn, 1) := by decide +kernel
theorem dX8_keptFor_0 : decode cX8_keptFor 0 = .ok (.aload_n 0, 1) := by decide +kernel
theorem dX8_keptFor_1 : decode cX8_keptFor 1 = .ok (.getfield 101, 3) := by decide +kernel
theorem dX8_keptFor_4 : decode cX8_keptFor 4 = .ok (.iconst 1, 1) := by decide +kernel
theorem dX8_keptFor_5 : decode cX8_keptFor 5 = .ok (.isub, 1) := by decide +kernel
theorem dX8_keptFor_6 : decode cX8_keptFor 6 = .ok (.istore_n 3, 1) := by decide +kernel
theorem dX8_keptFor_7 : decode cX8_keptFor 7 = .ok (.iload_n 3, 1) := by decide +kernel
theorem dX8_keptFor_8 : decode cX8_keptFor 8 = .ok (.ifCond .lt 20, 3) := by decide +kernel
theorem dX8_keptFor_11 : decode cX8_keptFor 11 = .ok (.aload_n 0, 1) := by decide +kernel
theorem dX8_keptFor_12 : decode cX8_keptFor 12 = .ok (.getfield 69, 3) := by decide +kernel
theorem dX8_keptFor_15 : decode cX8_keptFor 15 = .ok (.iload_n 3, 1) := by decide +kernel
theorem dX8_keptFor_16 : decode cX8_keptFor 16 = .ok (.laload, 1) := by decide +kernel
theorem dX8_keptFor_17 : decode cX8_keptFor 17 = .ok (.lload_n 1, 1) := by decide +kernel
theorem dX8_keptFor_18 : decode cX8_keptFor 18 = .ok (.lcmp, 1) := by decide +kernel
theorem dX8_keptFor_19 : decode cX8_keptFor 19 = .ok (.ifCond .eq 9, 3) := by decide +kernel
theorem dX8_keptFor_22 : decode cX8_keptFor 22 = .ok (.iinc 3 (-1), 3) := by decide +kernel
theorem dX8_keptFor_25 : decode cX8_keptFor 25 = .ok (.goto (-18), 3) := by decide +kernel
theorem dX8_keptFor_28 : decode cX8_keptFor 28 = .ok (.iload_n 3, 1) := by decide +kernel
theorem dX8_keptFor_29 : decode cX8_keptFor 29 = .ok (.ireturn, 1) := by decide +kernel
theorem dX8_settle_0 : decode cX8_settle 0 = .ok (.aload_n 0, 1) := by decide +kernel
theorem dX8_settle_1 : decode cX8_settle 1 = .ok (.getfield 24, 3) := by decide +kernel
theorem dX8_settle_4 : decode cX8_settle 4 = .ok (.iload_n 1, 1) := by decide +kernel
theorem dX8_settle_5 : decode cX8_settle 5 = .ok (.iconst 2, 1) := by decide +kernel
theorem dX8_settle_6 : decode cX8_settle 6 = .ok (.iastore, 1) := by decide +kernel
theorem dX8_settle_7 : decode cX8_settle 7 = .ok (.aload_n 0, 1) := by decide +kernel
theorem dX8_settle_8 : decode cX8_settle 8 = .ok (.getfield 27, 3) := by decide +kernel
theorem dX8_settle_11 : decode cX8_settle 11 = .ok (.iload_n 1, 1) := by decide +kernel
theorem dX8_settle_12 : decode cX8_settle 12 = .ok (.iload_n 2, 1) := by decide +kernel
theorem dX8_settle_13 : decode cX8_settle 13 = .ok (.iastore, 1) := by decide +kernel
theorem dX8_settle_14 : decode cX8_settle 14 = .ok (.aload_n 0, 1) := by decide +kernel
theorem dX8_settle_15 : decode cX8_settle 15 = .ok (.getfield 30, 3) := by decide +kernel
theorem dX8_settle_18 : decode cX8_settle 18 = .ok (.iload_n 1, 1) := by decide +kernel
theorem dX8_settle_19 : decode cX8_settle 19 = .ok (.lload_n 3, 1) := by decide +kernel
theorem dX8_settle_20 : decode cX8_settle 20 = .ok (.lastore, 1) := by decide +kernel
theorem dX8_settle_21 : decode cX8_settle 21 = .ok (.aload_n 0, 1) := by decide +kernel
theorem dX8_settle_22 : decode cX8_settle 22 = .ok (.iload_n 1, 1) := by decide +kernel
theorem dX8_settle_23 : decode cX8_settle 23 = .ok (.invokevirtual 104, 3) := by decide +kernel
theorem dX8_settle_26 : decode cX8_settle 26 = .ok (.return_, 1) := by decide +kernel
theorem dX8_placeInQueue_0 : decode cX8_placeInQueue 0 = .ok (.aload_n 0, 1) := by decide +kernel
theorem dX8_placeInQueue_1 : decode cX8_placeInQueue 1 = .ok (.getfield 108, 3) := by decide +kernel
theorem dX8_placeInQueue_4 : decode cX8_placeInQueue 4 = .ok (.iconst 1, 1) := by decide +kernel
theorem dX8_placeInQueue_5 : decode cX8_placeInQueue 5 = .ok (.isub, 1) := by decide +kernel
theorem dX8_placeInQueue_6 : decode cX8_placeInQueue 6 = .ok (.istore_n 2, 1) := by decide +kernel
theorem dX8_placeInQueue_7 : decode cX8_placeInQueue 7 = .ok (.iload_n 2, 1) := by decide +kernel
theorem dX8_placeInQueue_8 : decode cX8_placeInQueue 8 = .ok (.ifCond .lt 19, 3) := by decide +kernel
theorem dX8_placeInQueue_11 : decode cX8_placeInQueue 11 = .ok (.aload_n 0, 1) := by decide +kernel
theorem dX8_placeInQueue_12 : decode cX8_placeInQueue 12 = .ok (.getfield 39, 3) := by decide +kernel
theorem dX8_placeInQueue_15 : decode cX8_placeInQueue 15 = .ok (.iload_n 2, 1) := by decide +kernel
theorem dX8_placeInQueue_16 : decode cX8_placeInQueue 16 = .ok (.iaload, 1) := by decide +kernel
theorem dX8_placeInQueue_17 : decode cX8_placeInQueue 17 = .ok (.iload_n 1, 1) := by decide +kernel
theorem dX8_placeInQueue_18 : decode cX8_placeInQueue 18 = .ok (.if_icmp .eq 9, 3) := by decide +kernel
theorem dX8_placeInQueue_21 : decode cX8_placeInQueue 21 = .ok (.iinc 2 (-1), 3) := by decide +kernel
theorem dX8_placeInQueue_24 : decode cX8_placeInQueue 24 = .ok (.goto (-17), 3) := by decide +kernel
theorem dX8_placeInQueue_27 : decode cX8_placeInQueue 27 = .ok (.iload_n 2, 1) := by decide +kernel
theorem dX8_placeInQueue_28 : decode cX8_placeInQueue 28 = .ok (.ireturn, 1) := by decide +kernel
theorem dX8_leave_0 : decode cX8_leave 0 = .ok (.aload_n 0, 1) := by decide +kernel
theorem dX8_leave_1 : decode cX8_leave 1 = .ok (.iload_n 1, 1) := by decide +kernel
theorem dX8_leave_2 : decode cX8_leave 2 = .ok (.invokevirtual 111, 3) := by decide +kernel
theorem dX8_leave_5 : decode cX8_leave 5 = .ok (.istore_n 2, 1) := by decide +kernel
theorem dX8_leave_6 : decode cX8_leave 6 = .ok (.iload_n 2, 1) := by decide +kernel
theorem dX8_leave_7 : decode cX8_leave 7 = .ok (.ifCond .lt 45, 3) := by decide +kernel
theorem dX8_leave_10 : decode cX8_leave 10 = .ok (.iload_n 2, 1) := by decide +kernel
theorem dX8_leave_11 : decode cX8_leave 11 = .ok (.istore_n 3, 1) := by decide +kernel
theorem dX8_leave_12 : decode cX8_leave 12 = .ok (.iload_n 3, 1) := by decide +kernel
theorem dX8_leave_13 : decode cX8_leave 13 = .ok (.iconst 1, 1) := by decide +kernel
theorem dX8_leave_14 : decode cX8_leave 14 = .ok (.iadd, 1) := by decide +kernel
theorem dX8_leave_15 : decode cX8_leave 15 = .ok (.aload_n 0, 1) := by decide +kernel
theorem dX8_leave_16 : decode cX8_leave 16 = .ok (.getfield 108, 3) := by decide +kernel
theorem dX8_leave_19 : decode cX8_leave 19 = .ok (.if_icmp .ge 23, 3) := by decide +kernel
theorem dX8_leave_22 : decode cX8_leave 22 = .ok (.aload_n 0, 1) := by decide +kernel
theorem dX8_leave_23 : decode cX8_leave 23 = .ok (.getfield 39, 3) := by decide +kernel
theorem dX8_leave_26 : decode cX8_leave 26 = .ok (.iload_n 3, 1) := by decide +kernel
theorem dX8_leave_27 : decode cX8_leave 27 = .ok (.aload_n 0, 1) := by decide +kernel
theorem dX8_leave_28 : decode cX8_leave 28 = .ok (.getfield 39, 3) := by decide +kernel
theorem dX8_leave_31 : decode cX8_leave 31 = .ok (.iload_n 3, 1) := by decide +kernel
theorem dX8_leave_32 : decode cX8_leave 32 = .ok (.iconst 1, 1) := by decide +kernel
theorem dX8_leave_33 : decode cX8_leave 33 = .ok (.iadd, 1) := by decide +kernel
theorem dX8_leave_34 : decode cX8_leave 34 = .ok (.iaload, 1) := by decide +kernel
theorem dX8_leave_35 : decode cX8_leave 35 = .ok (.iastore, 1) := by decide +kernel
theorem dX8_leave_36 : decode cX8_leave 36 = .ok (.iinc 3 1, 3) := by decide +kernel
theorem dX8_leave_39 : decode cX8_leave 39 = .ok (.goto (-27), 3) := by decide +kernel
theorem dX8_leave_42 : decode cX8_leave 42 = .ok (.aload_n 0, 1) := by decide +kernel
theorem dX8_leave_43 : decode cX8_leave 43 = .ok (.dup, 1) := by decide +kernel
theorem dX8_leave_44 : decode cX8_leave 44 = .ok (.getfield 108, 3) := by decide +kernel
theorem dX8_leave_47 : decode cX8_leave 47 = .ok (.iconst 1, 1) := by decide +kernel
theorem dX8_leave_48 : decode cX8_leave 48 = .ok (.isub, 1) := by decide +kernel
theorem dX8_leave_49 : decode cX8_leave 49 = .ok (.putfield 108, 3) := by decide +kernel
theorem dX8_leave_52 : decode cX8_leave 52 = .ok (.return_, 1) := by decide +kernel
theorem dX8_goOn_0 : decode cX8_goOn 0 = .ok (.aload_n 0, 1) := by decide +kernel
theorem dX8_goOn_1 : decode cX8_goOn 1 = .ok (.iconst 1, 1) := by decide +kernel
theorem dX8_goOn_2 : decode cX8_goOn 2 = .ok (.invokevirtual 115, 3) := by decide +kernel
theorem dX8_goOn_5 : decode cX8_goOn 5 = .ok (.aload_n 0, 1) := by decide +kernel
theorem dX8_goOn_6 : decode cX8_goOn 6 = .ok (.getfield 90, 3) := by decide +kernel
theorem dX8_goOn_9 : decode cX8_goOn 9 = .ok (.if_icmp .ge 97, 3) := by decide +kernel
theorem dX8_goOn_12 : decode cX8_goOn 12 = .ok (.aload_n 0, 1) := by decide +kernel
theorem dX8_goOn_13 : decode cX8_goOn 13 = .ok (.iconst 0, 1) := by decide +kernel
theorem dX8_goOn_14 : decode cX8_goOn 14 = .ok (.invokevirtual 115, 3) := by decide +kernel
theorem dX8_goOn_17 : decode cX8_goOn 17 = .ok (.ifCond .le 89, 3) := by decide +kernel
theorem dX8_goOn_20 : decode cX8_goOn 20 = .ok (.aload_n 0, 1) := by decide +kernel
theorem dX8_goOn_21 : decode cX8_goOn 21 = .ok (.iconst 0, 1) := by decide +kernel
theorem dX8_goOn_22 : decode cX8_goOn 22 = .ok (.invokevirtual 118, 3) := by decide +kernel
theorem dX8_goOn_25 : decode cX8_goOn 25 = .ok (.istore_n 1, 1) := by decide +kernel
theorem dX8_goOn_26 : decode cX8_goOn 26 = .ok (.aload_n 0, 1) := by decide +kernel
theorem dX8_goOn_27 : decode cX8_goOn 27 = .ok (.aload_n 0, 1) := by decide +kernel
theorem dX8_goOn_28 : decode cX8_goOn 28 = .ok (.getfield 17, 3) := by decide +kernel
theorem dX8_goOn_31 : decode cX8_goOn 31 = .ok (.iload_n 1, 1) := by decide +kernel
theorem dX8_goOn_32 : decode cX8_goOn 32 = .ok (.laload, 1) := by decide +kernel
theorem dX8_goOn_33 : decode cX8_goOn 33 = .ok (.invokevirtual 121, 3) := by decide +kernel
theorem dX8_goOn_36 : decode cX8_goOn 36 = .ok (.istore_n 2, 1) := by decide +kernel
theorem dX8_goOn_37 : decode cX8_goOn 37 = .ok (.iload_n 2, 1) := by decide +kernel
theorem dX8_goOn_38 : decode cX8_goOn 38 = .ok (.ifCond .lt 31, 3) := by decide +kernel
theorem dX8_goOn_41 : decode cX8_goOn 41 = .ok (.aload_n 0, 1) := by decide +kernel
theorem dX8_goOn_42 : decode cX8_goOn 42 = .ok (.getfield 75, 3) := by decide +kernel
theorem dX8_goOn_45 : decode cX8_goOn 45 = .ok (.iload_n 2, 1) := by decide +kernel
theorem dX8_goOn_46 : decode cX8_goOn 46 = .ok (.iaload, 1) := by decide +kernel
theorem dX8_goOn_47 : decode cX8_goOn 47 = .ok (.aload_n 0, 1) := by decide +kernel
theorem dX8_goOn_48 : decode cX8_goOn 48 = .ok (.getfield 125, 3) := by decide +kernel
theorem dX8_goOn_51 : decode cX8_goOn 51 = .ok (.if_icmp .lt 18, 3) := by decide +kernel
theorem dX8_goOn_54 : decode cX8_goOn 54 = .ok (.aload_n 0, 1) := by decide +kernel
theorem dX8_goOn_55 : decode cX8_goOn 55 = .ok (.iload_n 1, 1) := by decide +kernel
theorem dX8_goOn_56 : decode cX8_goOn 56 = .ok (.iconst 1, 1) := by decide +kernel
theorem dX8_goOn_57 : decode cX8_goOn 57 = .ok (.aload_n 0, 1) := by decide +kernel
theorem dX8_goOn_58 : decode cX8_goOn 58 = .ok (.getfield 72, 3) := by decide +kernel
theorem dX8_goOn_61 : decode cX8_goOn 61 = .ok (.iload_n 2, 1) := by decide +kernel
theorem dX8_goOn_62 : decode cX8_goOn 62 = .ok (.laload, 1) := by decide +kernel
theorem dX8_goOn_63 : decode cX8_goOn 63 = .ok (.invokevirtual 128, 3) := by decide +kernel
theorem dX8_goOn_66 : decode cX8_goOn 66 = .ok (.goto 37, 3) := by decide +kernel
theorem dX8_goOn_69 : decode cX8_goOn 69 = .ok (.aload_n 0, 1) := by decide +kernel
theorem dX8_goOn_70 : decode cX8_goOn 70 = .ok (.getfield 24, 3) := by decide +kernel
theorem dX8_goOn_73 : decode cX8_goOn 73 = .ok (.iload_n 1, 1) := by decide +kernel
theorem dX8_goOn_74 : decode cX8_goOn 74 = .ok (.iconst 1, 1) := by decide +kernel
theorem dX8_goOn_75 : decode cX8_goOn 75 = .ok (.iastore, 1) := by decide +kernel
theorem dX8_goOn_76 : decode cX8_goOn 76 = .ok (.aload_n 0, 1) := by decide +kernel
theorem dX8_goOn_77 : decode cX8_goOn 77 = .ok (.getfield 33, 3) := by decide +kernel
theorem dX8_goOn_80 : decode cX8_goOn 80 = .ok (.iload_n 1, 1) := by decide +kernel
theorem dX8_goOn_81 : decode cX8_goOn 81 = .ok (.iconst 1, 1) := by decide +kernel
theorem dX8_goOn_82 : decode cX8_goOn 82 = .ok (.iastore, 1) := by decide +kernel
theorem dX8_goOn_83 : decode cX8_goOn 83 = .ok (.aload_n 0, 1) := by decide +kernel
theorem dX8_goOn_84 : decode cX8_goOn 84 = .ok (.getfield 39, 3) := by decide +kernel
theorem dX8_goOn_87 : decode cX8_goOn 87 = .ok (.aload_n 0, 1) := by decide +kernel
theorem dX8_goOn_88 : decode cX8_goOn 88 = .ok (.getfield 108, 3) := by decide +kernel
theorem dX8_goOn_91 : decode cX8_goOn 91 = .ok (.iload_n 1, 1) := by decide +kernel
theorem dX8_goOn_92 : decode cX8_goOn 92 = .ok (.iastore, 1) := by decide +kernel
theorem dX8_goOn_93 : decode cX8_goOn 93 = .ok (.aload_n 0, 1) := by decide +kernel
theorem dX8_goOn_94 : decode cX8_goOn 94 = .ok (.dup, 1) := by decide +kernel
theorem dX8_goOn_95 : decode cX8_goOn 95 = .ok (.getfield 108, 3) := by decide +kernel
theorem dX8_goOn_98 : decode cX8_goOn 98 = .ok (.iconst 1, 1) := by decide +kernel
theorem dX8_goOn_99 : decode cX8_goOn 99 = .ok (.iadd, 1) := by decide +kernel
theorem dX8_goOn_100 : decode cX8_goOn 100 = .ok (.putfield 108, 3) := by decide +kernel
theorem dX8_goOn_103 : decode cX8_goOn 103 = .ok (.goto (-103), 3) := by decide +kernel
theorem dX8_goOn_106 : decode cX8_goOn 106 = .ok (.aload_n 0, 1) := by decide +kernel
theorem dX8_goOn_107 : decode cX8_goOn 107 = .ok (.getfield 132, 3) := by decide +kernel
theorem dX8_goOn_110 : decode cX8_goOn 110 = .ok (.aload_n 0, 1) := by decide +kernel
theorem dX8_goOn_111 : decode cX8_goOn 111 = .ok (.getfield 7, 3) := by decide +kernel
theorem dX8_goOn_114 : decode cX8_goOn 114 = .ok (.iconst 2, 1) := by decide +kernel
theorem dX8_goOn_115 : decode cX8_goOn 115 = .ok (.iaload, 1) := by decide +kernel
theorem dX8_goOn_116 : decode cX8_goOn 116 = .ok (.if_icmp .ge 70, 3) := by decide +kernel
theorem dX8_goOn_119 : decode cX8_goOn 119 = .ok (.aload_n 0, 1) := by decide +kernel
theorem dX8_goOn_120 : decode cX8_goOn 120 = .ok (.getfield 108, 3) := by decide +kernel
theorem dX8_goOn_123 : decode cX8_goOn 123 = .ok (.ifCond .le 63, 3) := by decide +kernel
theorem dX8_goOn_126 : decode cX8_goOn 126 = .ok (.aload_n 0, 1) := by decide +kernel
theorem dX8_goOn_127 : decode cX8_goOn 127 = .ok (.getfield 39, 3) := by decide +kernel
theorem dX8_goOn_130 : decode cX8_goOn 130 = .ok (.iconst 0, 1) := by decide +kernel
theorem dX8_goOn_131 : decode cX8_goOn 131 = .ok (.iaload, 1) := by decide +kernel
theorem dX8_goOn_132 : decode cX8_goOn 132 = .ok (.istore_n 1, 1) := by decide +kernel
theorem dX8_goOn_133 : decode cX8_goOn 133 = .ok (.aload_n 0, 1) := by decide +kernel
theorem dX8_goOn_134 : decode cX8_goOn 134 = .ok (.iload_n 1, 1) := by decide +kernel
theorem dX8_goOn_135 : decode cX8_goOn 135 = .ok (.invokevirtual 104, 3) := by decide +kernel
theorem dX8_goOn_138 : decode cX8_goOn 138 = .ok (.aload_n 0, 1) := by decide +kernel
theorem dX8_goOn_139 : decode cX8_goOn 139 = .ok (.getfield 36, 3) := by decide +kernel
theorem dX8_goOn_142 : decode cX8_goOn 142 = .ok (.iload_n 1, 1) := by decide +kernel
theorem dX8_goOn_143 : decode cX8_goOn 143 = .ok (.aload_n 0, 1) := by decide +kernel
theorem dX8_goOn_144 : decode cX8_goOn 144 = .ok (.getfield 125, 3) := by decide +kernel
theorem dX8_goOn_147 : decode cX8_goOn 147 = .ok (.aload_n 0, 1) := by decide +kernel
theorem dX8_goOn_148 : decode cX8_goOn 148 = .ok (.getfield 7, 3) := by decide +kernel
theorem dX8_goOn_151 : decode cX8_goOn 151 = .ok (.iconst 0, 1) := by decide +kernel
theorem dX8_goOn_152 : decode cX8_goOn 152 = .ok (.iaload, 1) := by decide +kernel
theorem dX8_goOn_153 : decode cX8_goOn 153 = .ok (.iadd, 1) := by decide +kernel
theorem dX8_goOn_154 : decode cX8_goOn 154 = .ok (.iastore, 1) := by decide +kernel
theorem dX8_goOn_155 : decode cX8_goOn 155 = .ok (.aload_n 0, 1) := by decide +kernel
theorem dX8_goOn_156 : decode cX8_goOn 156 = .ok (.dup, 1) := by decide +kernel
theorem dX8_goOn_157 : decode cX8_goOn 157 = .ok (.getfield 132, 3) := by decide +kernel
theorem dX8_goOn_160 : decode cX8_goOn 160 = .ok (.iconst 1, 1) := by decide +kernel
theorem dX8_goOn_161 : decode cX8_goOn 161 = .ok (.iadd, 1) := by decide +kernel
theorem dX8_goOn_162 : decode cX8_goOn 162 = .ok (.putfield 132, 3) := by decide +kernel
theorem dX8_goOn_165 : decode cX8_goOn 165 = .ok (.aload_n 0, 1) := by decide +kernel
theorem dX8_goOn_166 : decode cX8_goOn 166 = .ok (.dup, 1) := by decide +kernel
theorem dX8_goOn_167 : decode cX8_goOn 167 = .ok (.getfield 135, 3) := by decide +kernel
theorem dX8_goOn_170 : decode cX8_goOn 170 = .ok (.iconst 1, 1) := by decide +kernel
theorem dX8_goOn_171 : decode cX8_goOn 171 = .ok (.iadd, 1) := by decide +kernel
theorem dX8_goOn_172 : decode cX8_goOn 172 = .ok (.putfield 135, 3) := by decide +kernel
theorem dX8_goOn_175 : decode cX8_goOn 175 = .ok (.aload_n 0, 1) := by decide +kernel
theorem dX8_goOn_176 : decode cX8_goOn 176 = .ok (.iconst 0, 1) := by decide +kernel
theorem dX8_goOn_177 : decode cX8_goOn 177 = .ok (.iload_n 1, 1) := by decide +kernel
theorem dX8_goOn_178 : decode cX8_goOn 178 = .ok (.iconst 0, 1) := by decide +kernel
theorem dX8_goOn_179 : decode cX8_goOn 179 = .ok (.lconst 0, 1) := by decide +kernel
theorem dX8_goOn_180 : decode cX8_goOn 180 = .ok (.invokevirtual 138, 3) := by decide +kernel
theorem dX8_goOn_183 : decode cX8_goOn 183 = .ok (.goto (-77), 3) := by decide +kernel
theorem dX8_goOn_186 : decode cX8_goOn 186 = .ok (.aload_n 0, 1) := by decide +kernel
theorem dX8_goOn_187 : decode cX8_goOn 187 = .ok (.invokevirtual 142, 3) := by decide +kernel
theorem dX8_goOn_190 : decode cX8_goOn 190 = .ok (.istore_n 1, 1) := by decide +kernel
theorem dX8_goOn_191 : decode cX8_goOn 191 = .ok (.iload_n 1, 1) := by decide +kernel
theorem dX8_goOn_192 : decode cX8_goOn 192 = .ok (.ifCond .lt 51, 3) := by decide +kernel
theorem dX8_goOn_195 : decode cX8_goOn 195 = .ok (.aload_n 0, 1) := by decide +kernel
theorem dX8_goOn_196 : decode cX8_goOn 196 = .ok (.getfield 24, 3) := by decide +kernel
theorem dX8_goOn_199 : decode cX8_goOn 199 = .ok (.iload_n 1, 1) := by decide +kernel
theorem dX8_goOn_200 : decode cX8_goOn 200 = .ok (.iconst 3, 1) := by decide +kernel
theorem dX8_goOn_201 : decode cX8_goOn 201 = .ok (.iastore, 1) := by decide +kernel
theorem dX8_goOn_202 : decode cX8_goOn 202 = .ok (.aload_n 0, 1) := by decide +kernel
theorem dX8_goOn_203 : decode cX8_goOn 203 = .ok (.getfield 42, 3) := by decide +kernel
theorem dX8_goOn_206 : decode cX8_goOn 206 = .ok (.aload_n 0, 1) := by decide +kernel
theorem dX8_goOn_207 : decode cX8_goOn 207 = .ok (.getfield 146, 3) := by decide +kernel
theorem dX8_goOn_210 : decode cX8_goOn 210 = .ok (.iload_n 1, 1) := by decide +kernel
theorem dX8_goOn_211 : decode cX8_goOn 211 = .ok (.iastore, 1) := by decide +kernel
theorem dX8_goOn_212 : decode cX8_goOn 212 = .ok (.aload_n 0, 1) := by decide +kernel
theorem dX8_goOn_213 : decode cX8_goOn 213 = .ok (.getfield 45, 3) := by decide +kernel
theorem dX8_goOn_216 : decode cX8_goOn 216 = .ok (.aload_n 0, 1) := by decide +kernel
theorem dX8_goOn_217 : decode cX8_goOn 217 = .ok (.getfield 146, 3) := by decide +kernel
theorem dX8_goOn_220 : decode cX8_goOn 220 = .ok (.aload_n 0, 1) := by decide +kernel
theorem dX8_goOn_221 : decode cX8_goOn 221 = .ok (.getfield 125, 3) := by decide +kernel
theorem dX8_goOn_224 : decode cX8_goOn 224 = .ok (.iastore, 1) := by decide +kernel
theorem dX8_goOn_225 : decode cX8_goOn 225 = .ok (.aload_n 0, 1) := by decide +kernel
theorem dX8_goOn_226 : decode cX8_goOn 226 = .ok (.dup, 1) := by decide +kernel
theorem dX8_goOn_227 : decode cX8_goOn 227 = .ok (.getfield 146, 3) := by decide +kernel
theorem dX8_goOn_230 : decode cX8_goOn 230 = .ok (.iconst 1, 1) := by decide +kernel
theorem dX8_goOn_231 : decode cX8_goOn 231 = .ok (.iadd, 1) := by decide +kernel
theorem dX8_goOn_232 : decode cX8_goOn 232 = .ok (.putfield 146, 3) := by decide +kernel
theorem dX8_goOn_235 : decode cX8_goOn 235 = .ok (.aload_n 0, 1) := by decide +kernel
theorem dX8_goOn_236 : decode cX8_goOn 236 = .ok (.invokevirtual 142, 3) := by decide +kernel
theorem dX8_goOn_239 : decode cX8_goOn 239 = .ok (.istore_n 1, 1) := by decide +kernel
theorem dX8_goOn_240 : decode cX8_goOn 240 = .ok (.goto (-49), 3) := by decide +kernel
theorem dX8_goOn_243 : decode cX8_goOn 243 = .ok (.return_, 1) := by decide +kernel
theorem dX8_nextOut_0 : decode cX8_nextOut 0 = .ok (.iconst 1, 1) := by decide +kernel
theorem dX8_nextOut_1 : decode cX8_nextOut 1 = .ok (.istore_n 1, 1) := by decide +kernel
theorem dX8_nextOut_2 : decode cX8_nextOut 2 = .ok (.iconst 1, 1) := by decide +kernel
theorem dX8_nextOut_3 : decode cX8_nextOut 3 = .ok (.istore_n 2, 1) := by decide +kernel
theorem dX8_nextOut_4 : decode cX8_nextOut 4 = .ok (.iconst 0, 1) := by decide +kernel
theorem dX8_nextOut_5 : decode cX8_nextOut 5 = .ok (.istore_n 3, 1) := by decide +kernel
theorem dX8_nextOut_6 : decode cX8_nextOut 6 = .ok (.iload_n 3, 1) := by decide +kernel
theorem dX8_nextOut_7 : decode cX8_nextOut 7 = .ok (.aload_n 0, 1) := by decide +kernel
theorem dX8_nextOut_8 : decode cX8_nextOut 8 = .ok (.getfield 98, 3) := by decide +kernel
theorem dX8_nextOut_11 : decode cX8_nextOut 11 = .ok (.if_icmp .ge 103, 3) := by decide +kernel
theorem dX8_nextOut_14 : decode cX8_nextOut 14 = .ok (.aload_n 0, 1) := by decide +kernel
theorem dX8_nextOut_15 : decode cX8_nextOut 15 = .ok (.getfield 94, 3) := by decide +kernel
theorem dX8_nextOut_18 : decode cX8_nextOut 18 = .ok (.ifCond .ne 12, 3) := by decide +kernel
theorem dX8_nextOut_21 : decode cX8_nextOut 21 = .ok (.aload_n 0, 1) := by decide +kernel
theorem dX8_nextOut_22 : decode cX8_nextOut 22 = .ok (.getfield 13, 3) := by decide +kernel
theorem dX8_nextOut_25 : decode cX8_nextOut 25 = .ok (.iload_n 3, 1) := by decide +kernel
theorem dX8_nextOut_26 : decode cX8_nextOut 26 = .ok (.baload, 1) := by decide +kernel
theorem dX8_nextOut_27 : decode cX8_nextOut 27 = .ok (.ifCond .eq 7, 3) := by decide +kernel
theorem dX8_nextOut_30 : decode cX8_nextOut 30 = .ok (.iload_n 1, 1) := by decide +kernel
theorem dX8_nextOut_31 : decode cX8_nextOut 31 = .ok (.goto 4, 3) := by decide +kernel
theorem dX8_nextOut_34 : decode cX8_nextOut 34 = .ok (.iload_n 2, 1) := by decide +kernel
theorem dX8_nextOut_35 : decode cX8_nextOut 35 = .ok (.istore 4, 2) := by decide +kernel
theorem dX8_nextOut_37 : decode cX8_nextOut 37 = .ok (.aload_n 0, 1) := by decide +kernel
theorem dX8_nextOut_38 : decode cX8_nextOut 38 = .ok (.getfield 24, 3) := by decide +kernel
theorem dX8_nextOut_41 : decode cX8_nextOut 41 = .ok (.iload_n 3, 1) := by decide +kernel
theorem dX8_nextOut_42 : decode cX8_nextOut 42 = .ok (.iaload, 1) := by decide +kernel
theorem dX8_nextOut_43 : decode cX8_nextOut 43 = .ok (.iconst 2, 1) := by decide +kernel
theorem dX8_nextOut_44 : decode cX8_nextOut 44 = .ok (.if_icmp .ne 10, 3) := by decide +kernel
theorem dX8_nextOut_47 : decode cX8_nextOut 47 = .ok (.iload 4, 2) := by decide +kernel
theorem dX8_nextOut_49 : decode cX8_nextOut 49 = .ok (.ifCond .eq 5, 3) := by decide +kernel
theorem dX8_nextOut_52 : decode cX8_nextOut 52 = .ok (.iload_n 3, 1) := by decide +kernel
theorem dX8_nextOut_53 : decode cX8_nextOut 53 = .ok (.ireturn, 1) := by decide +kernel
theorem dX8_nextOut_54 : decode cX8_nextOut 54 = .ok (.aload_n 0, 1) := by decide +kernel
theorem dX8_nextOut_55 : decode cX8_nextOut 55 = .ok (.getfield 24, 3) := by decide +kernel
theorem dX8_nextOut_58 : decode cX8_nextOut 58 = .ok (.iload_n 3, 1) := by decide +kernel
theorem dX8_nextOut_59 : decode cX8_nextOut 59 = .ok (.iaload, 1) := by decide +kernel
theorem dX8_nextOut_60 : decode cX8_nextOut 60 = .ok (.iconst 3, 1) := by decide +kernel
theorem dX8_nextOut_61 : decode cX8_nextOut 61 = .ok (.if_icmp .eq 13, 3) := by decide +kernel
theorem dX8_nextOut_64 : decode cX8_nextOut 64 = .ok (.aload_n 0, 1) := by decide +kernel
theorem dX8_nextOut_65 : decode cX8_nextOut 65 = .ok (.getfield 24, 3) := by decide +kernel
theorem dX8_nextOut_68 : decode cX8_nextOut 68 = .ok (.iload_n 3, 1) := by decide +kernel
theorem dX8_nextOut_69 : decode cX8_nextOut 69 = .ok (.iaload, 1) := by decide +kernel
theorem dX8_nextOut_70 : decode cX8_nextOut 70 = .ok (.iconst 4, 1) := by decide +kernel
theorem dX8_nextOut_71 : decode cX8_nextOut 71 = .ok (.if_icmp .ne 7, 3) := by decide +kernel
theorem dX8_nextOut_74 : decode cX8_nextOut 74 = .ok (.iconst 1, 1) := by decide +kernel
theorem dX8_nextOut_75 : decode cX8_nextOut 75 = .ok (.goto 4, 3) := by decide +kernel
theorem dX8_nextOut_78 : decode cX8_nextOut 78 = .ok (.iconst 0, 1) := by decide +kernel
theorem dX8_nextOut_79 : decode cX8_nextOut 79 = .ok (.istore 5, 2) := by decide +kernel
theorem dX8_nextOut_81 : decode cX8_nextOut 81 = .ok (.iload_n 1, 1) := by decide +kernel
theorem dX8_nextOut_82 : decode cX8_nextOut 82 = .ok (.iload 5, 2) := by decide +kernel
theorem dX8_nextOut_84 : decode cX8_nextOut 84 = .ok (.iand, 1) := by decide +kernel
theorem dX8_nextOut_85 : decode cX8_nextOut 85 = .ok (.istore_n 1, 1) := by decide +kernel
theorem dX8_nextOut_86 : decode cX8_nextOut 86 = .ok (.iload_n 2, 1) := by decide +kernel
theorem dX8_nextOut_87 : decode cX8_nextOut 87 = .ok (.iload 5, 2) := by decide +kernel
theorem dX8_nextOut_89 : decode cX8_nextOut 89 = .ok (.ifCond .ne 12, 3) := by decide +kernel
theorem dX8_nextOut_92 : decode cX8_nextOut 92 = .ok (.aload_n 0, 1) := by decide +kernel
theorem dX8_nextOut_93 : decode cX8_nextOut 93 = .ok (.getfield 13, 3) := by decide +kernel
theorem dX8_nextOut_96 : decode cX8_nextOut 96 = .ok (.iload_n 3, 1) := by decide +kernel
theorem dX8_nextOut_97 : decode cX8_nextOut 97 = .ok (.baload, 1) := by decide +kernel
theorem dX8_nextOut_98 : decode cX8_nextOut 98 = .ok (.ifCond .ne 7, 3) := by decide +kernel
theorem dX8_nextOut_101 : decode cX8_nextOut 101 = .ok (.iconst 1, 1) := by decide +kernel
theorem dX8_nextOut_102 : decode cX8_nextOut 102 = .ok (.goto 4, 3) := by decide +kernel
theorem dX8_nextOut_105 : decode cX8_nextOut 105 = .ok (.iconst 0, 1) := by decide +kernel
theorem dX8_nextOut_106 : decode cX8_nextOut 106 = .ok (.iand, 1) := by decide +kernel
theorem dX8_nextOut_107 : decode cX8_nextOut 107 = .ok (.istore_n 2, 1) := by decide +kernel
theorem dX8_nextOut_108 : decode cX8_nextOut 108 = .ok (.iinc 3 1, 3) := by decide +kernel
theorem dX8_nextOut_111 : decode cX8_nextOut 111 = .ok (.goto (-105), 3) := by decide +kernel
theorem dX8_nextOut_114 : decode cX8_nextOut 114 = .ok (.iconst (-1), 1) := by decide +kernel
theorem dX8_nextOut_115 : decode cX8_nextOut 115 = .ok (.ireturn, 1) := by decide +kernel
theorem dX8_send_0 : decode cX8_send 0 = .ok (.aload_n 0, 1) := by decide +kernel
theorem dX8_send_1 : decode cX8_send 1 = .ok (.getfield 57, 3) := by decide +kernel
theorem dX8_send_4 : decode cX8_send 4 = .ok (.iload_n 1, 1) := by decide +kernel
theorem dX8_send_5 : decode cX8_send 5 = .ok (.iaload, 1) := by decide +kernel
theorem dX8_send_6 : decode cX8_send 6 = .ok (.istore 6, 2) := by decide +kernel
theorem dX8_send_8 : decode cX8_send 8 = .ok (.iload 6, 2) := by decide +kernel
theorem dX8_send_10 : decode cX8_send 10 = .ok (.bipush 100, 2) := by decide +kernel
theorem dX8_send_12 : decode cX8_send 12 = .ok (.if_icmp .ge 53, 3) := by decide +kernel
theorem dX8_send_15 : decode cX8_send 15 = .ok (.aload_n 0, 1) := by decide +kernel
theorem dX8_send_16 : decode cX8_send 16 = .ok (.getfield 48, 3) := by decide +kernel
theorem dX8_send_19 : decode cX8_send 19 = .ok (.bipush 100, 2) := by decide +kernel
theorem dX8_send_21 : decode cX8_send 21 = .ok (.iload_n 1, 1) := by decide +kernel
theorem dX8_send_22 : decode cX8_send 22 = .ok (.imul, 1) := by decide +kernel
theorem dX8_send_23 : decode cX8_send 23 = .ok (.iload 6, 2) := by decide +kernel
theorem dX8_send_25 : decode cX8_send 25 = .ok (.iadd, 1) := by decide +kernel
theorem dX8_send_26 : decode cX8_send 26 = .ok (.iload_n 2, 1) := by decide +kernel
theorem dX8_send_27 : decode cX8_send 27 = .ok (.iastore, 1) := by decide +kernel
theorem dX8_send_28 : decode cX8_send 28 = .ok (.aload_n 0, 1) := by decide +kernel
theorem dX8_send_29 : decode cX8_send 29 = .ok (.getfield 51, 3) := by decide +kernel
theorem dX8_send_32 : decode cX8_send 32 = .ok (.bipush 100, 2) := by decide +kernel
theorem dX8_send_34 : decode cX8_send 34 = .ok (.iload_n 1, 1) := by decide +kernel
theorem dX8_send_35 : decode cX8_send 35 = .ok (.imul, 1) := by decide +kernel
theorem dX8_send_36 : decode cX8_send 36 = .ok (.iload 6, 2) := by decide +kernel
theorem dX8_send_38 : decode cX8_send 38 = .ok (.iadd, 1) := by decide +kernel
theorem dX8_send_39 : decode cX8_send 39 = .ok (.iload_n 3, 1) := by decide +kernel
theorem dX8_send_40 : decode cX8_send 40 = .ok (.iastore, 1) := by decide +kernel
theorem dX8_send_41 : decode cX8_send 41 = .ok (.aload_n 0, 1) := by decide +kernel
theorem dX8_send_42 : decode cX8_send 42 = .ok (.getfield 54, 3) := by decide +kernel
theorem dX8_send_45 : decode cX8_send 45 = .ok (.bipush 100, 2) := by decide +kernel
theorem dX8_send_47 : decode cX8_send 47 = .ok (.iload_n 1, 1) := by decide +kernel
theorem dX8_send_48 : decode cX8_send 48 = .ok (.imul, 1) := by decide +kernel
theorem dX8_send_49 : decode cX8_send 49 = .ok (.iload 6, 2) := by decide +kernel
theorem dX8_send_51 : decode cX8_send 51 = .ok (.iadd, 1) := by decide +kernel
theorem dX8_send_52 : decode cX8_send 52 = .ok (.lload 4, 2) := by decide +kernel
theorem dX8_send_54 : decode cX8_send 54 = .ok (.lastore, 1) := by decide +kernel
theorem dX8_send_55 : decode cX8_send 55 = .ok (.aload_n 0, 1) := by decide +kernel
theorem dX8_send_56 : decode cX8_send 56 = .ok (.getfield 57, 3) := by decide +kernel
theorem dX8_send_59 : decode cX8_send 59 = .ok (.iload_n 1, 1) := by decide +kernel
theorem dX8_send_60 : decode cX8_send 60 = .ok (.dup2, 1) := by decide +kernel
theorem dX8_send_61 : decode cX8_send 61 = .ok (.iaload, 1) := by decide +kernel
theorem dX8_send_62 : decode cX8_send 62 = .ok (.iconst 1, 1) := by decide +kernel
theorem dX8_send_63 : decode cX8_send 63 = .ok (.iadd, 1) := by decide +kernel
theorem dX8_send_64 : decode cX8_send 64 = .ok (.iastore, 1) := by decide +kernel
theorem dX8_send_65 : decode cX8_send 65 = .ok (.return_, 1) := by decide +kernel
theorem dX8_take_0 : decode cX8_take 0 = .ok (.bipush 100, 2) := by decide +kernel
theorem dX8_take_2 : decode cX8_take 2 = .ok (.iload_n 1, 1) := by decide +kernel
theorem dX8_take_3 : decode cX8_take 3 = .ok (.imul, 1) := by decide +kernel
theorem dX8_take_4 : decode cX8_take 4 = .ok (.iload_n 2, 1) := by decide +kernel
theorem dX8_take_5 : decode cX8_take 5 = .ok (.iadd, 1) := by decide +kernel
theorem dX8_take_6 : decode cX8_take 6 = .ok (.istore_n 3, 1) := by decide +kernel
theorem dX8_take_7 : decode cX8_take 7 = .ok (.iload_n 3, 1) := by decide +kernel
theorem dX8_take_8 : decode cX8_take 8 = .ok (.iconst 1, 1) := by decide +kernel
theorem dX8_take_9 : decode cX8_take 9 = .ok (.iadd, 1) := by decide +kernel
theorem dX8_take_10 : decode cX8_take 10 = .ok (.bipush 100, 2) := by decide +kernel
theorem dX8_take_12 : decode cX8_take 12 = .ok (.iload_n 1, 1) := by decide +kernel
theorem dX8_take_13 : decode cX8_take 13 = .ok (.imul, 1) := by decide +kernel
theorem dX8_take_14 : decode cX8_take 14 = .ok (.aload_n 0, 1) := by decide +kernel
theorem dX8_take_15 : decode cX8_take 15 = .ok (.getfield 57, 3) := by decide +kernel
theorem dX8_take_18 : decode cX8_take 18 = .ok (.iload_n 1, 1) := by decide +kernel
theorem dX8_take_19 : decode cX8_take 19 = .ok (.iaload, 1) := by decide +kernel
theorem dX8_take_20 : decode cX8_take 20 = .ok (.iadd, 1) := by decide +kernel
theorem dX8_take_21 : decode cX8_take 21 = .ok (.if_icmp .ge 51, 3) := by decide +kernel
theorem dX8_take_24 : decode cX8_take 24 = .ok (.aload_n 0, 1) := by decide +kernel
theorem dX8_take_25 : decode cX8_take 25 = .ok (.getfield 48, 3) := by decide +kernel
theorem dX8_take_28 : decode cX8_take 28 = .ok (.iload_n 3, 1) := by decide +kernel
theorem dX8_take_29 : decode cX8_take 29 = .ok (.aload_n 0, 1) := by decide +kernel
theorem dX8_take_30 : decode cX8_take 30 = .ok (.getfield 48, 3) := by decide +kernel
theorem dX8_take_33 : decode cX8_take 33 = .ok (.iload_n 3, 1) := by decide +kernel
theorem dX8_take_34 : decode cX8_take 34 = .ok (.iconst 1, 1) := by decide +kernel
theorem dX8_take_35 : decode cX8_take 35 = .ok (.iadd, 1) := by decide +kernel
theorem dX8_take_36 : decode cX8_take 36 = .ok (.iaload, 1) := by decide +kernel
theorem dX8_take_37 : decode cX8_take 37 = .ok (.iastore, 1) := by decide +kernel
theorem dX8_take_38 : decode cX8_take 38 = .ok (.aload_n 0, 1) := by decide +kernel
theorem dX8_take_39 : decode cX8_take 39 = .ok (.getfield 51, 3) := by decide +kernel
theorem dX8_take_42 : decode cX8_take 42 = .ok (.iload_n 3, 1) := by decide +kernel
theorem dX8_take_43 : decode cX8_take 43 = .ok (.aload_n 0, 1) := by decide +kernel
theorem dX8_take_44 : decode cX8_take 44 = .ok (.getfield 51, 3) := by decide +kernel
theorem dX8_take_47 : decode cX8_take 47 = .ok (.iload_n 3, 1) := by decide +kernel
theorem dX8_take_48 : decode cX8_take 48 = .ok (.iconst 1, 1) := by decide +kernel
theorem dX8_take_49 : decode cX8_take 49 = .ok (.iadd, 1) := by decide +kernel
theorem dX8_take_50 : decode cX8_take 50 = .ok (.iaload, 1) := by decide +kernel
theorem dX8_take_51 : decode cX8_take 51 = .ok (.iastore, 1) := by decide +kernel
theorem dX8_take_52 : decode cX8_take 52 = .ok (.aload_n 0, 1) := by decide +kernel
theorem dX8_take_53 : decode cX8_take 53 = .ok (.getfield 54, 3) := by decide +kernel
theorem dX8_take_56 : decode cX8_take 56 = .ok (.iload_n 3, 1) := by decide +kernel
theorem dX8_take_57 : decode cX8_take 57 = .ok (.aload_n 0, 1) := by decide +kernel
theorem dX8_take_58 : decode cX8_take 58 = .ok (.getfield 54, 3) := by decide +kernel
theorem dX8_take_61 : decode cX8_take 61 = .ok (.iload_n 3, 1) := by decide +kernel
theorem dX8_take_62 : decode cX8_take 62 = .ok (.iconst 1, 1) := by decide +kernel
theorem dX8_take_63 : decode cX8_take 63 = .ok (.iadd, 1) := by decide +kernel
theorem dX8_take_64 : decode cX8_take 64 = .ok (.laload, 1) := by decide +kernel
theorem dX8_take_65 : decode cX8_take 65 = .ok (.lastore, 1) := by decide +kernel
theorem dX8_take_66 : decode cX8_take 66 = .ok (.iinc 3 1, 3) := by decide +kernel
theorem dX8_take_69 : decode cX8_take 69 = .ok (.goto (-62), 3) := by decide +kernel
theorem dX8_take_72 : decode cX8_take 72 = .ok (.aload_n 0, 1) := by decide +kernel
theorem dX8_take_73 : decode cX8_take 73 = .ok (.getfield 57, 3) := by decide +kernel
theorem dX8_take_76 : decode cX8_take 76 = .ok (.iload_n 1, 1) := by decide +kernel
theorem dX8_take_77 : decode cX8_take 77 = .ok (.dup2, 1) := by decide +kernel
theorem dX8_take_78 : decode cX8_take 78 = .ok (.iaload, 1) := by decide +kernel
theorem dX8_take_79 : decode cX8_take 79 = .ok (.iconst 1, 1) := by decide +kernel
theorem dX8_take_80 : decode cX8_take 80 = .ok (.isub, 1) := by decide +kernel
theorem dX8_take_81 : decode cX8_take 81 = .ok (.iastore, 1) := by decide +kernel
theorem dX8_take_82 : decode cX8_take 82 = .ok (.return_, 1) := by decide +kernel
theorem dX8_again_0 : decode cX8_again 0 = .ok (.aload_n 0, 1) := by decide +kernel
theorem dX8_again_1 : decode cX8_again 1 = .ok (.getfield 33, 3) := by decide +kernel
theorem dX8_again_4 : decode cX8_again 4 = .ok (.iload_n 1, 1) := by decide +kernel
theorem dX8_again_5 : decode cX8_again 5 = .ok (.iaload, 1) := by decide +kernel
theorem dX8_again_6 : decode cX8_again 6 = .ok (.aload_n 0, 1) := by decide +kernel
theorem dX8_again_7 : decode cX8_again 7 = .ok (.getfield 7, 3) := by decide +kernel
theorem dX8_again_10 : decode cX8_again 10 = .ok (.iconst 1, 1) := by decide +kernel
theorem dX8_again_11 : decode cX8_again 11 = .ok (.iaload, 1) := by decide +kernel
theorem dX8_again_12 : decode cX8_again 12 = .ok (.if_icmp .lt 5, 3) := by decide +kernel
theorem dX8_again_15 : decode cX8_again 15 = .ok (.iconst 0, 1) := by decide +kernel
theorem dX8_again_16 : decode cX8_again 16 = .ok (.ireturn, 1) := by decide +kernel
theorem dX8_again_17 : decode cX8_again 17 = .ok (.aload_n 0, 1) := by decide +kernel
theorem dX8_again_18 : decode cX8_again 18 = .ok (.getfield 33, 3) := by decide +kernel
theorem dX8_again_21 : decode cX8_again 21 = .ok (.iload_n 1, 1) := by decide +kernel
theorem dX8_again_22 : decode cX8_again 22 = .ok (.dup2, 1) := by decide +kernel
theorem dX8_again_23 : decode cX8_again 23 = .ok (.iaload, 1) := by decide +kernel
theorem dX8_again_24 : decode cX8_again 24 = .ok (.iconst 1, 1) := by decide +kernel
theorem dX8_again_25 : decode cX8_again 25 = .ok (.iadd, 1) := by decide +kernel
theorem dX8_again_26 : decode cX8_again 26 = .ok (.iastore, 1) := by decide +kernel
theorem dX8_again_27 : decode cX8_again 27 = .ok (.aload_n 0, 1) := by decide +kernel
theorem dX8_again_28 : decode cX8_again 28 = .ok (.getfield 39, 3) := by decide +kernel
theorem dX8_again_31 : decode cX8_again 31 = .ok (.aload_n 0, 1) := by decide +kernel
theorem dX8_again_32 : decode cX8_again 32 = .ok (.getfield 108, 3) := by decide +kernel
theorem dX8_again_35 : decode cX8_again 35 = .ok (.iload_n 1, 1) := by decide +kernel
theorem dX8_again_36 : decode cX8_again 36 = .ok (.iastore, 1) := by decide +kernel
theorem dX8_again_37 : decode cX8_again 37 = .ok (.aload_n 0, 1) := by decide +kernel
theorem dX8_again_38 : decode cX8_again 38 = .ok (.dup, 1) := by decide +kernel
theorem dX8_again_39 : decode cX8_again 39 = .ok (.getfield 108, 3) := by decide +kernel
theorem dX8_again_42 : decode cX8_again 42 = .ok (.iconst 1, 1) := by decide +kernel
theorem dX8_again_43 : decode cX8_again 43 = .ok (.iadd, 1) := by decide +kernel
theorem dX8_again_44 : decode cX8_again 44 = .ok (.putfield 108, 3) := by decide +kernel
theorem dX8_again_47 : decode cX8_again 47 = .ok (.iconst 1, 1) := by decide +kernel
theorem dX8_again_48 : decode cX8_again 48 = .ok (.ireturn, 1) := by decide +kernel
theorem dX8_set_0 : decode cX8_set 0 = .ok (.iload_n 1, 1) := by decide +kernel
theorem dX8_set_1 : decode cX8_set 1 = .ok (.ifCond .eq 13, 3) := by decide +kernel
theorem dX8_set_4 : decode cX8_set 4 = .ok (.iload_n 1, 1) := by decide +kernel
theorem dX8_set_5 : decode cX8_set 5 = .ok (.iconst 1, 1) := by decide +kernel
theorem dX8_set_6 : decode cX8_set 6 = .ok (.if_icmp .eq 8, 3) := by decide +kernel
theorem dX8_set_9 : decode cX8_set 9 = .ok (.iload_n 1, 1) := by decide +kernel
theorem dX8_set_10 : decode cX8_set 10 = .ok (.iconst 2, 1) := by decide +kernel
theorem dX8_set_11 : decode cX8_set 11 = .ok (.if_icmp .ne 7, 3) := by decide +kernel
theorem dX8_set_14 : decode cX8_set 14 = .ok (.iconst 1, 1) := by decide +kernel
theorem dX8_set_15 : decode cX8_set 15 = .ok (.goto 4, 3) := by decide +kernel
theorem dX8_set_18 : decode cX8_set 18 = .ok (.iconst 0, 1) := by decide +kernel
theorem dX8_set_19 : decode cX8_set 19 = .ok (.istore_n 3, 1) := by decide +kernel
theorem dX8_set_20 : decode cX8_set 20 = .ok (.iload_n 1, 1) := by decide +kernel
theorem dX8_set_21 : decode cX8_set 21 = .ok (.ifCond .eq 8, 3) := by decide +kernel
theorem dX8_set_24 : decode cX8_set 24 = .ok (.iload_n 1, 1) := by decide +kernel
theorem dX8_set_25 : decode cX8_set 25 = .ok (.iconst 3, 1) := by decide +kernel
theorem dX8_set_26 : decode cX8_set 26 = .ok (.if_icmp .ne 8, 3) := by decide +kernel
theorem dX8_set_29 : decode cX8_set 29 = .ok (.bipush 100, 2) := by decide +kernel
theorem dX8_set_31 : decode cX8_set 31 = .ok (.goto 33, 3) := by decide +kernel
theorem dX8_set_34 : decode cX8_set 34 = .ok (.iload_n 1, 1) := by decide +kernel
theorem dX8_set_35 : decode cX8_set 35 = .ok (.iconst 1, 1) := by decide +kernel
theorem dX8_set_36 : decode cX8_set 36 = .ok (.if_icmp .ne 7, 3) := by decide +kernel
theorem dX8_set_39 : decode cX8_set 39 = .ok (.iconst 5, 1) := by decide +kernel
theorem dX8_set_40 : decode cX8_set 40 = .ok (.goto 24, 3) := by decide +kernel
theorem dX8_set_43 : decode cX8_set 43 = .ok (.iload_n 1, 1) := by decide +kernel
theorem dX8_set_44 : decode cX8_set 44 = .ok (.iconst 2, 1) := by decide +kernel
theorem dX8_set_45 : decode cX8_set 45 = .ok (.if_icmp .ne 8, 3) := by decide +kernel
theorem dX8_set_48 : decode cX8_set 48 = .ok (.bipush 20, 2) := by decide +kernel
theorem dX8_set_50 : decode cX8_set 50 = .ok (.goto 14, 3) := by decide +kernel
theorem dX8_set_53 : decode cX8_set 53 = .ok (.iload_n 1, 1) := by decide +kernel
theorem dX8_set_54 : decode cX8_set 54 = .ok (.bipush 7, 2) := by decide +kernel
theorem dX8_set_56 : decode cX8_set 56 = .ok (.if_icmp .ne 7, 3) := by decide +kernel
theorem dX8_set_59 : decode cX8_set 59 = .ok (.iconst 1, 1) := by decide +kernel
theorem dX8_set_60 : decode cX8_set 60 = .ok (.goto 4, 3) := by decide +kernel
theorem dX8_set_63 : decode cX8_set 63 = .ok (.iconst 2, 1) := by decide +kernel
theorem dX8_set_64 : decode cX8_set 64 = .ok (.istore 4, 2) := by decide +kernel
theorem dX8_set_66 : decode cX8_set 66 = .ok (.iload_n 1, 1) := by decide +kernel
theorem dX8_set_67 : decode cX8_set 67 = .ok (.ifCond .lt 20, 3) := by decide +kernel
theorem dX8_set_70 : decode cX8_set 70 = .ok (.iload_n 1, 1) := by decide +kernel
theorem dX8_set_71 : decode cX8_set 71 = .ok (.bipush 7, 2) := by decide +kernel
theorem dX8_set_73 : decode cX8_set 73 = .ok (.if_icmp .gt 14, 3) := by decide +kernel
theorem dX8_set_76 : decode cX8_set 76 = .ok (.iload_n 2, 1) := by decide +kernel
theorem dX8_set_77 : decode cX8_set 77 = .ok (.iload_n 3, 1) := by decide +kernel
theorem dX8_set_78 : decode cX8_set 78 = .ok (.if_icmp .lt 9, 3) := by decide +kernel
theorem dX8_set_81 : decode cX8_set 81 = .ok (.iload_n 2, 1) := by decide +kernel
theorem dX8_set_82 : decode cX8_set 82 = .ok (.iload 4, 2) := by decide +kernel
theorem dX8_set_84 : decode cX8_set 84 = .ok (.if_icmp .le 5, 3) := by decide +kernel
theorem dX8_set_87 : decode cX8_set 87 = .ok (.iconst (-1), 1) := by decide +kernel
theorem dX8_set_88 : decode cX8_set 88 = .ok (.ireturn, 1) := by decide +kernel
theorem dX8_set_89 : decode cX8_set 89 = .ok (.aload_n 0, 1) := by decide +kernel
theorem dX8_set_90 : decode cX8_set 90 = .ok (.getfield 7, 3) := by decide +kernel
theorem dX8_set_93 : decode cX8_set 93 = .ok (.iload_n 1, 1) := by decide +kernel
theorem dX8_set_94 : decode cX8_set 94 = .ok (.iaload, 1) := by decide +kernel
theorem dX8_set_95 : decode cX8_set 95 = .ok (.istore 5, 2) := by decide +kernel
theorem dX8_set_97 : decode cX8_set 97 = .ok (.aload_n 0, 1) := by decide +kernel
theorem dX8_set_98 : decode cX8_set 98 = .ok (.getfield 7, 3) := by decide +kernel
theorem dX8_set_101 : decode cX8_set 101 = .ok (.iload_n 1, 1) := by decide +kernel
theorem dX8_set_102 : decode cX8_set 102 = .ok (.iload_n 2, 1) := by decide +kernel
theorem dX8_set_103 : decode cX8_set 103 = .ok (.iastore, 1) := by decide +kernel
theorem dX8_set_104 : decode cX8_set 104 = .ok (.aload_n 0, 1) := by decide +kernel
theorem dX8_set_105 : decode cX8_set 105 = .ok (.invokevirtual 149, 3) := by decide +kernel
theorem dX8_set_108 : decode cX8_set 108 = .ok (.iload 5, 2) := by decide +kernel
theorem dX8_set_110 : decode cX8_set 110 = .ok (.ireturn, 1) := by decide +kernel
theorem dX8_come_0 : decode cX8_come 0 = .ok (.aload_n 0, 1) := by decide +kernel
theorem dX8_come_1 : decode cX8_come 1 = .ok (.getfield 98, 3) := by decide +kernel
theorem dX8_come_4 : decode cX8_come 4 = .ok (.sipush 300, 3) := by decide +kernel
theorem dX8_come_7 : decode cX8_come 7 = .ok (.if_icmp .ne 6, 3) := by decide +kernel
theorem dX8_come_10 : decode cX8_come 10 = .ok (.bipush (-4), 2) := by decide +kernel
theorem dX8_come_12 : decode cX8_come 12 = .ok (.ireturn, 1) := by decide +kernel
theorem dX8_come_13 : decode cX8_come 13 = .ok (.aload_n 0, 1) := by decide +kernel
theorem dX8_come_14 : decode cX8_come 14 = .ok (.getfield 98, 3) := by decide +kernel
theorem dX8_come_17 : decode cX8_come 17 = .ok (.istore 6, 2) := by decide +kernel
theorem dX8_come_19 : decode cX8_come 19 = .ok (.aload_n 0, 1) := by decide +kernel
theorem dX8_come_20 : decode cX8_come 20 = .ok (.getfield 13, 3) := by decide +kernel
theorem dX8_come_23 : decode cX8_come 23 = .ok (.iload 6, 2) := by decide +kernel
theorem dX8_come_25 : decode cX8_come 25 = .ok (.iload_n 1, 1) := by decide +kernel
theorem dX8_come_26 : decode cX8_come 26 = .ok (.bastore, 1) := by decide +kernel
theorem dX8_come_27 : decode cX8_come 27 = .ok (.aload_n 0, 1) := by decide +kernel
theorem dX8_come_28 : decode cX8_come 28 = .ok (.getfield 17, 3) := by decide +kernel
theorem dX8_come_31 : decode cX8_come 31 = .ok (.iload 6, 2) := by decide +kernel
theorem dX8_come_33 : decode cX8_come 33 = .ok (.lload_n 2, 1) := by decide +kernel
theorem dX8_come_34 : decode cX8_come 34 = .ok (.lastore, 1) := by decide +kernel
theorem dX8_come_35 : decode cX8_come 35 = .ok (.aload_n 0, 1) := by decide +kernel
theorem dX8_come_36 : decode cX8_come 36 = .ok (.getfield 21, 3) := by decide +kernel
theorem dX8_come_39 : decode cX8_come 39 = .ok (.iload 6, 2) := by decide +kernel
theorem dX8_come_41 : decode cX8_come 41 = .ok (.lload 4, 2) := by decide +kernel
theorem dX8_come_43 : decode cX8_come 43 = .ok (.lastore, 1) := by decide +kernel
theorem dX8_come_44 : decode cX8_come 44 = .ok (.aload_n 0, 1) := by decide +kernel
theorem dX8_come_45 : decode cX8_come 45 = .ok (.getfield 24, 3) := by decide +kernel
theorem dX8_come_48 : decode cX8_come 48 = .ok (.iload 6, 2) := by decide +kernel
theorem dX8_come_50 : decode cX8_come 50 = .ok (.iload_n 1, 1) := by decide +kernel
theorem dX8_come_51 : decode cX8_come 51 = .ok (.ifCond .eq 7, 3) := by decide +kernel
theorem dX8_come_54 : decode cX8_come 54 = .ok (.iconst 2, 1) := by decide +kernel
theorem dX8_come_55 : decode cX8_come 55 = .ok (.goto 4, 3) := by decide +kernel
theorem dX8_come_58 : decode cX8_come 58 = .ok (.iconst 0, 1) := by decide +kernel
theorem dX8_come_59 : decode cX8_come 59 = .ok (.iastore, 1) := by decide +kernel
theorem dX8_come_60 : decode cX8_come 60 = .ok (.aload_n 0, 1) := by decide +kernel
theorem dX8_come_61 : decode cX8_come 61 = .ok (.getfield 27, 3) := by decide +kernel
theorem dX8_come_64 : decode cX8_come 64 = .ok (.iload 6, 2) := by decide +kernel
theorem dX8_come_66 : decode cX8_come 66 = .ok (.iload_n 1, 1) := by decide +kernel
theorem dX8_come_67 : decode cX8_come 67 = .ok (.ifCond .eq 7, 3) := by decide +kernel
theorem dX8_come_70 : decode cX8_come 70 = .ok (.iconst 5, 1) := by decide +kernel
theorem dX8_come_71 : decode cX8_come 71 = .ok (.goto 4, 3) := by decide +kernel
theorem dX8_come_74 : decode cX8_come 74 = .ok (.iconst (-1), 1) := by decide +kernel
theorem dX8_come_75 : decode cX8_come 75 = .ok (.iastore, 1) := by decide +kernel
theorem dX8_come_76 : decode cX8_come 76 = .ok (.aload_n 0, 1) := by decide +kernel
theorem dX8_come_77 : decode cX8_come 77 = .ok (.dup, 1) := by decide +kernel
theorem dX8_come_78 : decode cX8_come 78 = .ok (.getfield 98, 3) := by decide +kernel
theorem dX8_come_81 : decode cX8_come 81 = .ok (.iconst 1, 1) := by decide +kernel
theorem dX8_come_82 : decode cX8_come 82 = .ok (.iadd, 1) := by decide +kernel
theorem dX8_come_83 : decode cX8_come 83 = .ok (.putfield 98, 3) := by decide +kernel
theorem dX8_come_86 : decode cX8_come 86 = .ok (.aload_n 0, 1) := by decide +kernel
theorem dX8_come_87 : decode cX8_come 87 = .ok (.invokevirtual 149, 3) := by decide +kernel
theorem dX8_come_90 : decode cX8_come 90 = .ok (.iload 6, 2) := by decide +kernel
theorem dX8_come_92 : decode cX8_come 92 = .ok (.ireturn, 1) := by decide +kernel
theorem dX8_row_0 : decode cX8_row 0 = .ok (.aload_n 0, 1) := by decide +kernel
theorem dX8_row_1 : decode cX8_row 1 = .ok (.iconst 0, 1) := by decide +kernel
theorem dX8_row_2 : decode cX8_row 2 = .ok (.lload_n 1, 1) := by decide +kernel
theorem dX8_row_3 : decode cX8_row 3 = .ok (.lload_n 3, 1) := by decide +kernel
theorem dX8_row_4 : decode cX8_row 4 = .ok (.invokevirtual 152, 3) := by decide +kernel
theorem dX8_row_7 : decode cX8_row 7 = .ok (.ireturn, 1) := by decide +kernel
theorem dX8_mark_0 : decode cX8_mark 0 = .ok (.aload_n 0, 1) := by decide +kernel
theorem dX8_mark_1 : decode cX8_mark 1 = .ok (.iconst 1, 1) := by decide +kernel
theorem dX8_mark_2 : decode cX8_mark 2 = .ok (.lconst 0, 1) := by decide +kernel
theorem dX8_mark_3 : decode cX8_mark 3 = .ok (.lconst 0, 1) := by decide +kernel
theorem dX8_mark_4 : decode cX8_mark 4 = .ok (.invokevirtual 152, 3) := by decide +kernel
theorem dX8_mark_7 : decode cX8_mark 7 = .ok (.ireturn, 1) := by decide +kernel
theorem dX8_tick_0 : decode cX8_tick 0 = .ok (.iload_n 1, 1) := by decide +kernel
theorem dX8_tick_1 : decode cX8_tick 1 = .ok (.ifCond .lt 21, 3) := by decide +kernel
theorem dX8_tick_4 : decode cX8_tick 4 = .ok (.iload_n 1, 1) := by decide +kernel
theorem dX8_tick_5 : decode cX8_tick 5 = .ok (.sipush 1000, 3) := by decide +kernel
theorem dX8_tick_8 : decode cX8_tick 8 = .ok (.if_icmp .gt 14, 3) := by decide +kernel
theorem dX8_tick_11 : decode cX8_tick 11 = .ok (.aload_n 0, 1) := by decide +kernel
theorem dX8_tick_12 : decode cX8_tick 12 = .ok (.getfield 125, 3) := by decide +kernel
theorem dX8_tick_15 : decode cX8_tick 15 = .ok (.iload_n 1, 1) := by decide +kernel
theorem dX8_tick_16 : decode cX8_tick 16 = .ok (.iadd, 1) := by decide +kernel
theorem dX8_tick_17 : decode cX8_tick 17 = .ok (.ldc 156, 2) := by decide +kernel
theorem dX8_tick_19 : decode cX8_tick 19 = .ok (.if_icmp .le 5, 3) := by decide +kernel
theorem dX8_tick_22 : decode cX8_tick 22 = .ok (.iconst (-1), 1) := by decide +kernel
theorem dX8_tick_23 : decode cX8_tick 23 = .ok (.ireturn, 1) := by decide +kernel
theorem dX8_tick_24 : decode cX8_tick 24 = .ok (.iconst 0, 1) := by decide +kernel
theorem dX8_tick_25 : decode cX8_tick 25 = .ok (.istore_n 2, 1) := by decide +kernel
theorem dX8_tick_26 : decode cX8_tick 26 = .ok (.iload_n 2, 1) := by decide +kernel
theorem dX8_tick_27 : decode cX8_tick 27 = .ok (.iload_n 1, 1) := by decide +kernel
theorem dX8_tick_28 : decode cX8_tick 28 = .ok (.if_icmp .ge 90, 3) := by decide +kernel
theorem dX8_tick_31 : decode cX8_tick 31 = .ok (.aload_n 0, 1) := by decide +kernel
theorem dX8_tick_32 : decode cX8_tick 32 = .ok (.dup, 1) := by decide +kernel
theorem dX8_tick_33 : decode cX8_tick 33 = .ok (.getfield 125, 3) := by decide +kernel
theorem dX8_tick_36 : decode cX8_tick 36 = .ok (.iconst 1, 1) := by decide +kernel
theorem dX8_tick_37 : decode cX8_tick 37 = .ok (.iadd, 1) := by decide +kernel
theorem dX8_tick_38 : decode cX8_tick 38 = .ok (.putfield 125, 3) := by decide +kernel
theorem dX8_tick_41 : decode cX8_tick 41 = .ok (.aload_n 0, 1) := by decide +kernel
theorem dX8_tick_42 : decode cX8_tick 42 = .ok (.iconst 0, 1) := by decide +kernel
theorem dX8_tick_43 : decode cX8_tick 43 = .ok (.putfield 132, 3) := by decide +kernel
theorem dX8_tick_46 : decode cX8_tick 46 = .ok (.iconst 0, 1) := by decide +kernel
theorem dX8_tick_47 : decode cX8_tick 47 = .ok (.istore_n 3, 1) := by decide +kernel
theorem dX8_tick_48 : decode cX8_tick 48 = .ok (.iload_n 3, 1) := by decide +kernel
theorem dX8_tick_49 : decode cX8_tick 49 = .ok (.aload_n 0, 1) := by decide +kernel
theorem dX8_tick_50 : decode cX8_tick 50 = .ok (.getfield 98, 3) := by decide +kernel
theorem dX8_tick_53 : decode cX8_tick 53 = .ok (.if_icmp .ge 55, 3) := by decide +kernel
theorem dX8_tick_56 : decode cX8_tick 56 = .ok (.aload_n 0, 1) := by decide +kernel
theorem dX8_tick_57 : decode cX8_tick 57 = .ok (.getfield 24, 3) := by decide +kernel
theorem dX8_tick_60 : decode cX8_tick 60 = .ok (.iload_n 3, 1) := by decide +kernel
theorem dX8_tick_61 : decode cX8_tick 61 = .ok (.iaload, 1) := by decide +kernel
theorem dX8_tick_62 : decode cX8_tick 62 = .ok (.iconst 1, 1) := by decide +kernel
theorem dX8_tick_63 : decode cX8_tick 63 = .ok (.if_icmp .ne 39, 3) := by decide +kernel
theorem dX8_tick_66 : decode cX8_tick 66 = .ok (.aload_n 0, 1) := by decide +kernel
theorem dX8_tick_67 : decode cX8_tick 67 = .ok (.iload_n 3, 1) := by decide +kernel
theorem dX8_tick_68 : decode cX8_tick 68 = .ok (.invokevirtual 111, 3) := by decide +kernel
theorem dX8_tick_71 : decode cX8_tick 71 = .ok (.ifCond .ge 31, 3) := by decide +kernel
theorem dX8_tick_74 : decode cX8_tick 74 = .ok (.aload_n 0, 1) := by decide +kernel
theorem dX8_tick_75 : decode cX8_tick 75 = .ok (.getfield 36, 3) := by decide +kernel
theorem dX8_tick_78 : decode cX8_tick 78 = .ok (.iload_n 3, 1) := by decide +kernel
theorem dX8_tick_79 : decode cX8_tick 79 = .ok (.iaload, 1) := by decide +kernel
theorem dX8_tick_80 : decode cX8_tick 80 = .ok (.aload_n 0, 1) := by decide +kernel
theorem dX8_tick_81 : decode cX8_tick 81 = .ok (.getfield 125, 3) := by decide +kernel
theorem dX8_tick_84 : decode cX8_tick 84 = .ok (.if_icmp .gt 18, 3) := by decide +kernel
theorem dX8_tick_87 : decode cX8_tick 87 = .ok (.aload_n 0, 1) := by decide +kernel
theorem dX8_tick_88 : decode cX8_tick 88 = .ok (.iload_n 3, 1) := by decide +kernel
theorem dX8_tick_89 : decode cX8_tick 89 = .ok (.invokevirtual 157, 3) := by decide +kernel
theorem dX8_tick_92 : decode cX8_tick 92 = .ok (.ifCond .ne 10, 3) := by decide +kernel
theorem dX8_tick_95 : decode cX8_tick 95 = .ok (.aload_n 0, 1) := by decide +kernel
theorem dX8_tick_96 : decode cX8_tick 96 = .ok (.iload_n 3, 1) := by decide +kernel
theorem dX8_tick_97 : decode cX8_tick 97 = .ok (.iconst 3, 1) := by decide +kernel
theorem dX8_tick_98 : decode cX8_tick 98 = .ok (.lconst 0, 1) := by decide +kernel
theorem dX8_tick_99 : decode cX8_tick 99 = .ok (.invokevirtual 128, 3) := by decide +kernel
theorem dX8_tick_102 : decode cX8_tick 102 = .ok (.iinc 3 1, 3) := by decide +kernel
theorem dX8_tick_105 : decode cX8_tick 105 = .ok (.goto (-57), 3) := by decide +kernel
theorem dX8_tick_108 : decode cX8_tick 108 = .ok (.aload_n 0, 1) := by decide +kernel
theorem dX8_tick_109 : decode cX8_tick 109 = .ok (.invokevirtual 149, 3) := by decide +kernel
theorem dX8_tick_112 : decode cX8_tick 112 = .ok (.iinc 2 1, 3) := by decide +kernel
theorem dX8_tick_115 : decode cX8_tick 115 = .ok (.goto (-89), 3) := by decide +kernel
theorem dX8_tick_118 : decode cX8_tick 118 = .ok (.aload_n 0, 1) := by decide +kernel
theorem dX8_tick_119 : decode cX8_tick 119 = .ok (.getfield 125, 3) := by decide +kernel
theorem dX8_tick_122 : decode cX8_tick 122 = .ok (.ireturn, 1) := by decide +kernel
theorem dX8_isUnder_0 : decode cX8_isUnder 0 = .ok (.iload_n 1, 1) := by decide +kernel
theorem dX8_isUnder_1 : decode cX8_isUnder 1 = .ok (.ifCond .lt 26, 3) := by decide +kernel
theorem dX8_isUnder_4 : decode cX8_isUnder 4 = .ok (.iload_n 1, 1) := by decide +kernel
theorem dX8_isUnder_5 : decode cX8_isUnder 5 = .ok (.iconst 2, 1) := by decide +kernel
theorem dX8_isUnder_6 : decode cX8_isUnder 6 = .ok (.if_icmp .ge 21, 3) := by decide +kernel
theorem dX8_isUnder_9 : decode cX8_isUnder 9 = .ok (.iload_n 2, 1) := by decide +kernel
theorem dX8_isUnder_10 : decode cX8_isUnder 10 = .ok (.ifCond .lt 17, 3) := by decide +kernel
theorem dX8_isUnder_13 : decode cX8_isUnder 13 = .ok (.iload_n 2, 1) := by decide +kernel
theorem dX8_isUnder_14 : decode cX8_isUnder 14 = .ok (.aload_n 0, 1) := by decide +kernel
theorem dX8_isUnder_15 : decode cX8_isUnder 15 = .ok (.getfield 57, 3) := by decide +kernel
theorem dX8_isUnder_18 : decode cX8_isUnder 18 = .ok (.iload_n 1, 1) := by decide +kernel
theorem dX8_isUnder_19 : decode cX8_isUnder 19 = .ok (.iaload, 1) := by decide +kernel
theorem dX8_isUnder_20 : decode cX8_isUnder 20 = .ok (.if_icmp .ge 7, 3) := by decide +kernel
theorem dX8_isUnder_23 : decode cX8_isUnder 23 = .ok (.iconst 1, 1) := by decide +kernel
theorem dX8_isUnder_24 : decode cX8_isUnder 24 = .ok (.goto 4, 3) := by decide +kernel
theorem dX8_isUnder_27 : decode cX8_isUnder 27 = .ok (.iconst 0, 1) := by decide +kernel
theorem dX8_isUnder_28 : decode cX8_isUnder 28 = .ok (.ireturn, 1) := by decide +kernel
theorem dX8_keyAt_0 : decode cX8_keyAt 0 = .ok (.iconst 0, 1) := by decide +kernel
theorem dX8_keyAt_1 : decode cX8_keyAt 1 = .ok (.istore_n 3, 1) := by decide +kernel
theorem dX8_keyAt_2 : decode cX8_keyAt 2 = .ok (.iload_n 3, 1) := by decide +kernel
theorem dX8_keyAt_3 : decode cX8_keyAt 3 = .ok (.aload_n 0, 1) := by decide +kernel
theorem dX8_keyAt_4 : decode cX8_keyAt 4 = .ok (.getfield 98, 3) := by decide +kernel
theorem dX8_keyAt_7 : decode cX8_keyAt 7 = .ok (.if_icmp .ge 29, 3) := by decide +kernel
theorem dX8_keyAt_10 : decode cX8_keyAt 10 = .ok (.aload_n 0, 1) := by decide +kernel
theorem dX8_keyAt_11 : decode cX8_keyAt 11 = .ok (.getfield 13, 3) := by decide +kernel
theorem dX8_keyAt_14 : decode cX8_keyAt 14 = .ok (.iload_n 3, 1) := by decide +kernel
theorem dX8_keyAt_15 : decode cX8_keyAt 15 = .ok (.baload, 1) := by decide +kernel
theorem dX8_keyAt_16 : decode cX8_keyAt 16 = .ok (.ifCond .ne 14, 3) := by decide +kernel
theorem dX8_keyAt_19 : decode cX8_keyAt 19 = .ok (.aload_n 0, 1) := by decide +kernel
theorem dX8_keyAt_20 : decode cX8_keyAt 20 = .ok (.getfield 17, 3) := by decide +kernel
theorem dX8_keyAt_23 : decode cX8_keyAt 23 = .ok (.iload_n 3, 1) := by decide +kernel
theorem dX8_keyAt_24 : decode cX8_keyAt 24 = .ok (.laload, 1) := by decide +kernel
theorem dX8_keyAt_25 : decode cX8_keyAt 25 = .ok (.lload_n 1, 1) := by decide +kernel
theorem dX8_keyAt_26 : decode cX8_keyAt 26 = .ok (.lcmp, 1) := by decide +kernel
theorem dX8_keyAt_27 : decode cX8_keyAt 27 = .ok (.ifCond .eq 9, 3) := by decide +kernel
theorem dX8_keyAt_30 : decode cX8_keyAt 30 = .ok (.iinc 3 1, 3) := by decide +kernel
theorem dX8_keyAt_33 : decode cX8_keyAt 33 = .ok (.goto (-31), 3) := by decide +kernel
theorem dX8_keyAt_36 : decode cX8_keyAt 36 = .ok (.iload_n 3, 1) := by decide +kernel
theorem dX8_keyAt_37 : decode cX8_keyAt 37 = .ok (.aload_n 0, 1) := by decide +kernel
theorem dX8_keyAt_38 : decode cX8_keyAt 38 = .ok (.getfield 98, 3) := by decide +kernel
theorem dX8_keyAt_41 : decode cX8_keyAt 41 = .ok (.if_icmp .ge 7, 3) := by decide +kernel
theorem dX8_keyAt_44 : decode cX8_keyAt 44 = .ok (.iload_n 3, 1) := by decide +kernel
theorem dX8_keyAt_45 : decode cX8_keyAt 45 = .ok (.goto 4, 3) := by decide +kernel
theorem dX8_keyAt_48 : decode cX8_keyAt 48 = .ok (.iconst (-1), 1) := by decide +kernel
theorem dX8_keyAt_49 : decode cX8_keyAt 49 = .ok (.ireturn, 1) := by decide +kernel
theorem dX8_serve_0 : decode cX8_serve 0 = .ok (.aload_n 0, 1) := by decide +kernel
theorem dX8_serve_1 : decode cX8_serve 1 = .ok (.iconst 0, 1) := by decide +kernel
theorem dX8_serve_2 : decode cX8_serve 2 = .ok (.iload_n 1, 1) := by decide +kernel
theorem dX8_serve_3 : decode cX8_serve 3 = .ok (.invokevirtual 161, 3) := by decide +kernel
theorem dX8_serve_6 : decode cX8_serve 6 = .ok (.ifCond .ne 5, 3) := by decide +kernel
theorem dX8_serve_9 : decode cX8_serve 9 = .ok (.iconst (-1), 1) := by decide +kernel
theorem dX8_serve_10 : decode cX8_serve 10 = .ok (.ireturn, 1) := by decide +kernel
theorem dX8_serve_11 : decode cX8_serve 11 = .ok (.aload_n 0, 1) := by decide +kernel
theorem dX8_serve_12 : decode cX8_serve 12 = .ok (.getfield 48, 3) := by decide +kernel
theorem dX8_serve_15 : decode cX8_serve 15 = .ok (.iload_n 1, 1) := by decide +kernel
theorem dX8_serve_16 : decode cX8_serve 16 = .ok (.iaload, 1) := by decide +kernel
theorem dX8_serve_17 : decode cX8_serve 17 = .ok (.istore_n 2, 1) := by decide +kernel
theorem dX8_serve_18 : decode cX8_serve 18 = .ok (.aload_n 0, 1) := by decide +kernel
theorem dX8_serve_19 : decode cX8_serve 19 = .ok (.iconst 0, 1) := by decide +kernel
theorem dX8_serve_20 : decode cX8_serve 20 = .ok (.iload_n 1, 1) := by decide +kernel
theorem dX8_serve_21 : decode cX8_serve 21 = .ok (.invokevirtual 165, 3) := by decide +kernel
theorem dX8_serve_24 : decode cX8_serve 24 = .ok (.aload_n 0, 1) := by decide +kernel
theorem dX8_serve_25 : decode cX8_serve 25 = .ok (.getfield 7, 3) := by decide +kernel
theorem dX8_serve_28 : decode cX8_serve 28 = .ok (.bipush 7, 2) := by decide +kernel
theorem dX8_serve_30 : decode cX8_serve 30 = .ok (.iaload, 1) := by decide +kernel
theorem dX8_serve_31 : decode cX8_serve 31 = .ok (.ifCond .eq 12, 3) := by decide +kernel
theorem dX8_serve_34 : decode cX8_serve 34 = .ok (.aload_n 0, 1) := by decide +kernel
theorem dX8_serve_35 : decode cX8_serve 35 = .ok (.getfield 63, 3) := by decide +kernel
theorem dX8_serve_38 : decode cX8_serve 38 = .ok (.iload_n 2, 1) := by decide +kernel
theorem dX8_serve_39 : decode cX8_serve 39 = .ok (.baload, 1) := by decide +kernel
theorem dX8_serve_40 : decode cX8_serve 40 = .ok (.ifCond .ne 7, 3) := by decide +kernel
theorem dX8_serve_43 : decode cX8_serve 43 = .ok (.iconst 1, 1) := by decide +kernel
theorem dX8_serve_44 : decode cX8_serve 44 = .ok (.goto 4, 3) := by decide +kernel
theorem dX8_serve_47 : decode cX8_serve 47 = .ok (.iconst 0, 1) := by decide +kernel
theorem dX8_serve_48 : decode cX8_serve 48 = .ok (.istore_n 3, 1) := by decide +kernel
theorem dX8_serve_49 : decode cX8_serve 49 = .ok (.iload_n 3, 1) := by decide +kernel
theorem dX8_serve_50 : decode cX8_serve 50 = .ok (.ifCond .eq 54, 3) := by decide +kernel
theorem dX8_serve_53 : decode cX8_serve 53 = .ok (.aload_n 0, 1) := by decide +kernel
theorem dX8_serve_54 : decode cX8_serve 54 = .ok (.aload_n 0, 1) := by decide +kernel
theorem dX8_serve_55 : decode cX8_serve 55 = .ok (.getfield 17, 3) := by decide +kernel
theorem dX8_serve_58 : decode cX8_serve 58 = .ok (.iload_n 2, 1) := by decide +kernel
theorem dX8_serve_59 : decode cX8_serve 59 = .ok (.laload, 1) := by decide +kernel
theorem dX8_serve_60 : decode cX8_serve 60 = .ok (.invokevirtual 169, 3) := by decide +kernel
theorem dX8_serve_63 : decode cX8_serve 63 = .ok (.istore 4, 2) := by decide +kernel
theorem dX8_serve_65 : decode cX8_serve 65 = .ok (.aload_n 0, 1) := by decide +kernel
theorem dX8_serve_66 : decode cX8_serve 66 = .ok (.getfield 60, 3) := by decide +kernel
theorem dX8_serve_69 : decode cX8_serve 69 = .ok (.iload 4, 2) := by decide +kernel
theorem dX8_serve_71 : decode cX8_serve 71 = .ok (.dup2, 1) := by decide +kernel
theorem dX8_serve_72 : decode cX8_serve 72 = .ok (.iaload, 1) := by decide +kernel
theorem dX8_serve_73 : decode cX8_serve 73 = .ok (.iconst 1, 1) := by decide +kernel
theorem dX8_serve_74 : decode cX8_serve 74 = .ok (.iadd, 1) := by decide +kernel
theorem dX8_serve_75 : decode cX8_serve 75 = .ok (.iastore, 1) := by decide +kernel
theorem dX8_serve_76 : decode cX8_serve 76 = .ok (.aload_n 0, 1) := by decide +kernel
theorem dX8_serve_77 : decode cX8_serve 77 = .ok (.getfield 63, 3) := by decide +kernel
theorem dX8_serve_80 : decode cX8_serve 80 = .ok (.iload_n 2, 1) := by decide +kernel
theorem dX8_serve_81 : decode cX8_serve 81 = .ok (.iconst 1, 1) := by decide +kernel
theorem dX8_serve_82 : decode cX8_serve 82 = .ok (.bastore, 1) := by decide +kernel
theorem dX8_serve_83 : decode cX8_serve 83 = .ok (.aload_n 0, 1) := by decide +kernel
theorem dX8_serve_84 : decode cX8_serve 84 = .ok (.getfield 66, 3) := by decide +kernel
theorem dX8_serve_87 : decode cX8_serve 87 = .ok (.iload_n 2, 1) := by decide +kernel
theorem dX8_serve_88 : decode cX8_serve 88 = .ok (.aload_n 0, 1) := by decide +kernel
theorem dX8_serve_89 : decode cX8_serve 89 = .ok (.getfield 21, 3) := by decide +kernel
theorem dX8_serve_92 : decode cX8_serve 92 = .ok (.iload_n 2, 1) := by decide +kernel
theorem dX8_serve_93 : decode cX8_serve 93 = .ok (.laload, 1) := by decide +kernel
theorem dX8_serve_94 : decode cX8_serve 94 = .ok (.aload_n 0, 1) := by decide +kernel
theorem dX8_serve_95 : decode cX8_serve 95 = .ok (.getfield 60, 3) := by decide +kernel
theorem dX8_serve_98 : decode cX8_serve 98 = .ok (.iload 4, 2) := by decide +kernel
theorem dX8_serve_100 : decode cX8_serve 100 = .ok (.iaload, 1) := by decide +kernel
theorem dX8_serve_101 : decode cX8_serve 101 = .ok (.i2l, 1) := by decide +kernel
theorem dX8_serve_102 : decode cX8_serve 102 = .ok (.ladd, 1) := by decide +kernel
theorem dX8_serve_103 : decode cX8_serve 103 = .ok (.lastore, 1) := by decide +kernel
theorem dX8_serve_104 : decode cX8_serve 104 = .ok (.aload_n 0, 1) := by decide +kernel
theorem dX8_serve_105 : decode cX8_serve 105 = .ok (.iconst 1, 1) := by decide +kernel
theorem dX8_serve_106 : decode cX8_serve 106 = .ok (.iload_n 2, 1) := by decide +kernel
theorem dX8_serve_107 : decode cX8_serve 107 = .ok (.iconst 0, 1) := by decide +kernel
theorem dX8_serve_108 : decode cX8_serve 108 = .ok (.aload_n 0, 1) := by decide +kernel
theorem dX8_serve_109 : decode cX8_serve 109 = .ok (.getfield 66, 3) := by decide +kernel
theorem dX8_serve_112 : decode cX8_serve 112 = .ok (.iload_n 2, 1) := by decide +kernel
theorem dX8_serve_113 : decode cX8_serve 113 = .ok (.laload, 1) := by decide +kernel
theorem dX8_serve_114 : decode cX8_serve 114 = .ok (.invokevirtual 138, 3) := by decide +kernel
theorem dX8_serve_117 : decode cX8_serve 117 = .ok (.aload_n 0, 1) := by decide +kernel
theorem dX8_serve_118 : decode cX8_serve 118 = .ok (.invokevirtual 149, 3) := by decide +kernel
theorem dX8_serve_121 : decode cX8_serve 121 = .ok (.iload_n 3, 1) := by decide +kernel
theorem dX8_serve_122 : decode cX8_serve 122 = .ok (.ifCond .eq 7, 3) := by decide +kernel
theorem dX8_serve_125 : decode cX8_serve 125 = .ok (.iconst 1, 1) := by decide +kernel
theorem dX8_serve_126 : decode cX8_serve 126 = .ok (.goto 4, 3) := by decide +kernel
theorem dX8_serve_129 : decode cX8_serve 129 = .ok (.iconst 0, 1) := by decide +kernel
theorem dX8_serve_130 : decode cX8_serve 130 = .ok (.ireturn, 1) := by decide +kernel
theorem dX8_refuse_0 : decode cX8_refuse 0 = .ok (.aload_n 0, 1) := by decide +kernel
theorem dX8_refuse_1 : decode cX8_refuse 1 = .ok (.iconst 0, 1) := by decide +kernel
theorem dX8_refuse_2 : decode cX8_refuse 2 = .ok (.iload_n 1, 1) := by decide +kernel
theorem dX8_refuse_3 : decode cX8_refuse 3 = .ok (.invokevirtual 161, 3) := by decide +kernel
theorem dX8_refuse_6 : decode cX8_refuse 6 = .ok (.ifCond .eq 13, 3) := by decide +kernel
theorem dX8_refuse_9 : decode cX8_refuse 9 = .ok (.iload_n 2, 1) := by decide +kernel
theorem dX8_refuse_10 : decode cX8_refuse 10 = .ok (.iconst 1, 1) := by decide +kernel
theorem dX8_refuse_11 : decode cX8_refuse 11 = .ok (.if_icmp .lt 8, 3) := by decide +kernel
theorem dX8_refuse_14 : decode cX8_refuse 14 = .ok (.iload_n 2, 1) := by decide +kernel
theorem dX8_refuse_15 : decode cX8_refuse 15 = .ok (.iconst 3, 1) := by decide +kernel
theorem dX8_refuse_16 : decode cX8_refuse 16 = .ok (.if_icmp .le 5, 3) := by decide +kernel
theorem dX8_refuse_19 : decode cX8_refuse 19 = .ok (.iconst (-1), 1) := by decide +kernel
theorem dX8_refuse_20 : decode cX8_refuse 20 = .ok (.ireturn, 1) := by decide +kernel
theorem dX8_refuse_21 : decode cX8_refuse 21 = .ok (.aload_n 0, 1) := by decide +kernel
theorem dX8_refuse_22 : decode cX8_refuse 22 = .ok (.getfield 48, 3) := by decide +kernel
theorem dX8_refuse_25 : decode cX8_refuse 25 = .ok (.iload_n 1, 1) := by decide +kernel
theorem dX8_refuse_26 : decode cX8_refuse 26 = .ok (.iaload, 1) := by decide +kernel
theorem dX8_refuse_27 : decode cX8_refuse 27 = .ok (.istore_n 3, 1) := by decide +kernel
theorem dX8_refuse_28 : decode cX8_refuse 28 = .ok (.aload_n 0, 1) := by decide +kernel
theorem dX8_refuse_29 : decode cX8_refuse 29 = .ok (.iconst 0, 1) := by decide +kernel
theorem dX8_refuse_30 : decode cX8_refuse 30 = .ok (.iload_n 1, 1) := by decide +kernel
theorem dX8_refuse_31 : decode cX8_refuse 31 = .ok (.invokevirtual 165, 3) := by decide +kernel
theorem dX8_refuse_34 : decode cX8_refuse 34 = .ok (.aload_n 0, 1) := by decide +kernel
theorem dX8_refuse_35 : decode cX8_refuse 35 = .ok (.iconst 1, 1) := by decide +kernel
theorem dX8_refuse_36 : decode cX8_refuse 36 = .ok (.iload_n 3, 1) := by decide +kernel
theorem dX8_refuse_37 : decode cX8_refuse 37 = .ok (.iload_n 2, 1) := by decide +kernel
theorem dX8_refuse_38 : decode cX8_refuse 38 = .ok (.lconst 0, 1) := by decide +kernel
theorem dX8_refuse_39 : decode cX8_refuse 39 = .ok (.invokevirtual 138, 3) := by decide +kernel
theorem dX8_refuse_42 : decode cX8_refuse 42 = .ok (.aload_n 0, 1) := by decide +kernel
theorem dX8_refuse_43 : decode cX8_refuse 43 = .ok (.invokevirtual 149, 3) := by decide +kernel
theorem dX8_refuse_46 : decode cX8_refuse 46 = .ok (.iconst 0, 1) := by decide +kernel
theorem dX8_refuse_47 : decode cX8_refuse 47 = .ok (.ireturn, 1) := by decide +kernel
theorem dX8_arrive_0 : decode cX8_arrive 0 = .ok (.aload_n 0, 1) := by decide +kernel
theorem dX8_arrive_1 : decode cX8_arrive 1 = .ok (.iconst 1, 1) := by decide +kernel
theorem dX8_arrive_2 : decode cX8_arrive 2 = .ok (.iload_n 1, 1) := by decide +kernel
theorem dX8_arrive_3 : decode cX8_arrive 3 = .ok (.invokevirtual 161, 3) := by decide +kernel
theorem dX8_arrive_6 : decode cX8_arrive 6 = .ok (.ifCond .ne 5, 3) := by decide +kernel
theorem dX8_arrive_9 : decode cX8_arrive 9 = .ok (.iconst (-1), 1) := by decide +kernel
theorem dX8_arrive_10 : decode cX8_arrive 10 = .ok (.ireturn, 1) := by decide +kernel
theorem dX8_arrive_11 : decode cX8_arrive 11 = .ok (.aload_n 0, 1) := by decide +kernel
theorem dX8_arrive_12 : decode cX8_arrive 12 = .ok (.getfield 48, 3) := by decide +kernel
theorem dX8_arrive_15 : decode cX8_arrive 15 = .ok (.bipush 100, 2) := by decide +kernel
theorem dX8_arrive_17 : decode cX8_arrive 17 = .ok (.iload_n 1, 1) := by decide +kernel
theorem dX8_arrive_18 : decode cX8_arrive 18 = .ok (.iadd, 1) := by decide +kernel
theorem dX8_arrive_19 : decode cX8_arrive 19 = .ok (.iaload, 1) := by decide +kernel
theorem dX8_arrive_20 : decode cX8_arrive 20 = .ok (.istore_n 2, 1) := by decide +kernel
theorem dX8_arrive_21 : decode cX8_arrive 21 = .ok (.aload_n 0, 1) := by decide +kernel
theorem dX8_arrive_22 : decode cX8_arrive 22 = .ok (.getfield 51, 3) := by decide +kernel
theorem dX8_arrive_25 : decode cX8_arrive 25 = .ok (.bipush 100, 2) := by decide +kernel
theorem dX8_arrive_27 : decode cX8_arrive 27 = .ok (.iload_n 1, 1) := by decide +kernel
theorem dX8_arrive_28 : decode cX8_arrive 28 = .ok (.iadd, 1) := by decide +kernel
theorem dX8_arrive_29 : decode cX8_arrive 29 = .ok (.iaload, 1) := by decide +kernel
theorem dX8_arrive_30 : decode cX8_arrive 30 = .ok (.istore_n 3, 1) := by decide +kernel
theorem dX8_arrive_31 : decode cX8_arrive 31 = .ok (.aload_n 0, 1) := by decide +kernel
theorem dX8_arrive_32 : decode cX8_arrive 32 = .ok (.getfield 54, 3) := by decide +kernel
theorem dX8_arrive_35 : decode cX8_arrive 35 = .ok (.bipush 100, 2) := by decide +kernel
theorem dX8_arrive_37 : decode cX8_arrive 37 = .ok (.iload_n 1, 1) := by decide +kernel
theorem dX8_arrive_38 : decode cX8_arrive 38 = .ok (.iadd, 1) := by decide +kernel
theorem dX8_arrive_39 : decode cX8_arrive 39 = .ok (.laload, 1) := by decide +kernel
theorem dX8_arrive_40 : decode cX8_arrive 40 = .ok (.lstore 4, 2) := by decide +kernel
theorem dX8_arrive_42 : decode cX8_arrive 42 = .ok (.aload_n 0, 1) := by decide +kernel
theorem dX8_arrive_43 : decode cX8_arrive 43 = .ok (.iconst 1, 1) := by decide +kernel
theorem dX8_arrive_44 : decode cX8_arrive 44 = .ok (.iload_n 1, 1) := by decide +kernel
theorem dX8_arrive_45 : decode cX8_arrive 45 = .ok (.invokevirtual 165, 3) := by decide +kernel
theorem dX8_arrive_48 : decode cX8_arrive 48 = .ok (.iconst 0, 1) := by decide +kernel
theorem dX8_arrive_49 : decode cX8_arrive 49 = .ok (.istore 6, 2) := by decide +kernel
theorem dX8_arrive_51 : decode cX8_arrive 51 = .ok (.aload_n 0, 1) := by decide +kernel
theorem dX8_arrive_52 : decode cX8_arrive 52 = .ok (.getfield 24, 3) := by decide +kernel
theorem dX8_arrive_55 : decode cX8_arrive 55 = .ok (.iload_n 2, 1) := by decide +kernel
theorem dX8_arrive_56 : decode cX8_arrive 56 = .ok (.iaload, 1) := by decide +kernel
theorem dX8_arrive_57 : decode cX8_arrive 57 = .ok (.iconst 1, 1) := by decide +kernel
theorem dX8_arrive_58 : decode cX8_arrive 58 = .ok (.if_icmp .ne 117, 3) := by decide +kernel
theorem dX8_arrive_61 : decode cX8_arrive 61 = .ok (.iload_n 3, 1) := by decide +kernel
theorem dX8_arrive_62 : decode cX8_arrive 62 = .ok (.ifCond .ne 29, 3) := by decide +kernel
theorem dX8_arrive_65 : decode cX8_arrive 65 = .ok (.aload_n 0, 1) := by decide +kernel
theorem dX8_arrive_66 : decode cX8_arrive 66 = .ok (.iload_n 2, 1) := by decide +kernel
theorem dX8_arrive_67 : decode cX8_arrive 67 = .ok (.iconst 0, 1) := by decide +kernel
theorem dX8_arrive_68 : decode cX8_arrive 68 = .ok (.lload 4, 2) := by decide +kernel
theorem dX8_arrive_70 : decode cX8_arrive 70 = .ok (.invokevirtual 128, 3) := by decide +kernel
theorem dX8_arrive_73 : decode cX8_arrive 73 = .ok (.aload_n 0, 1) := by decide +kernel
theorem dX8_arrive_74 : decode cX8_arrive 74 = .ok (.aload_n 0, 1) := by decide +kernel
theorem dX8_arrive_75 : decode cX8_arrive 75 = .ok (.getfield 17, 3) := by decide +kernel
theorem dX8_arrive_78 : decode cX8_arrive 78 = .ok (.iload_n 2, 1) := by decide +kernel
theorem dX8_arrive_79 : decode cX8_arrive 79 = .ok (.laload, 1) := by decide +kernel
theorem dX8_arrive_80 : decode cX8_arrive 80 = .ok (.lload 4, 2) := by decide +kernel
theorem dX8_arrive_82 : decode cX8_arrive 82 = .ok (.invokevirtual 172, 3) := by decide +kernel
theorem dX8_arrive_85 : decode cX8_arrive 85 = .ok (.iconst 1, 1) := by decide +kernel
theorem dX8_arrive_86 : decode cX8_arrive 86 = .ok (.istore 6, 2) := by decide +kernel
theorem dX8_arrive_88 : decode cX8_arrive 88 = .ok (.goto 87, 3) := by decide +kernel
theorem dX8_arrive_91 : decode cX8_arrive 91 = .ok (.aload_n 0, 1) := by decide +kernel
theorem dX8_arrive_92 : decode cX8_arrive 92 = .ok (.getfield 7, 3) := by decide +kernel
theorem dX8_arrive_95 : decode cX8_arrive 95 = .ok (.iconst 3, 1) := by decide +kernel
theorem dX8_arrive_96 : decode cX8_arrive 96 = .ok (.iload_n 3, 1) := by decide +kernel
theorem dX8_arrive_97 : decode cX8_arrive 97 = .ok (.iadd, 1) := by decide +kernel
theorem dX8_arrive_98 : decode cX8_arrive 98 = .ok (.iaload, 1) := by decide +kernel
theorem dX8_arrive_99 : decode cX8_arrive 99 = .ok (.istore 7, 2) := by decide +kernel
theorem dX8_arrive_101 : decode cX8_arrive 101 = .ok (.iload 7, 2) := by decide +kernel
theorem dX8_arrive_103 : decode cX8_arrive 103 = .ok (.ifCond .eq 25, 3) := by decide +kernel
theorem dX8_arrive_106 : decode cX8_arrive 106 = .ok (.iload 7, 2) := by decide +kernel
theorem dX8_arrive_108 : decode cX8_arrive 108 = .ok (.iconst 1, 1) := by decide +kernel
theorem dX8_arrive_109 : decode cX8_arrive 109 = .ok (.if_icmp .ne 23, 3) := by decide +kernel
theorem dX8_arrive_112 : decode cX8_arrive 112 = .ok (.aload_n 0, 1) := by decide +kernel
theorem dX8_arrive_113 : decode cX8_arrive 113 = .ok (.iload_n 2, 1) := by decide +kernel
theorem dX8_arrive_114 : decode cX8_arrive 114 = .ok (.invokevirtual 111, 3) := by decide +kernel
theorem dX8_arrive_117 : decode cX8_arrive 117 = .ok (.ifCond .ge 15, 3) := by decide +kernel
theorem dX8_arrive_120 : decode cX8_arrive 120 = .ok (.aload_n 0, 1) := by decide +kernel
theorem dX8_arrive_121 : decode cX8_arrive 121 = .ok (.iload_n 2, 1) := by decide +kernel
theorem dX8_arrive_122 : decode cX8_arrive 122 = .ok (.invokevirtual 157, 3) := by decide +kernel
theorem dX8_arrive_125 : decode cX8_arrive 125 = .ok (.ifCond .ne 7, 3) := by decide +kernel
theorem dX8_arrive_128 : decode cX8_arrive 128 = .ok (.iconst 1, 1) := by decide +kernel
theorem dX8_arrive_129 : decode cX8_arrive 129 = .ok (.goto 4, 3) := by decide +kernel
theorem dX8_arrive_132 : decode cX8_arrive 132 = .ok (.iconst 0, 1) := by decide +kernel
theorem dX8_arrive_133 : decode cX8_arrive 133 = .ok (.istore 8, 2) := by decide +kernel
theorem dX8_arrive_135 : decode cX8_arrive 135 = .ok (.iload 8, 2) := by decide +kernel
theorem dX8_arrive_137 : decode cX8_arrive 137 = .ok (.ifCond .ne 9, 3) := by decide +kernel
theorem dX8_arrive_140 : decode cX8_arrive 140 = .ok (.iload 7, 2) := by decide +kernel
theorem dX8_arrive_142 : decode cX8_arrive 142 = .ok (.iconst 2, 1) := by decide +kernel
theorem dX8_arrive_143 : decode cX8_arrive 143 = .ok (.if_icmp .ne 32, 3) := by decide +kernel
theorem dX8_arrive_146 : decode cX8_arrive 146 = .ok (.aload_n 0, 1) := by decide +kernel
theorem dX8_arrive_147 : decode cX8_arrive 147 = .ok (.iload_n 2, 1) := by decide +kernel
theorem dX8_arrive_148 : decode cX8_arrive 148 = .ok (.iload 8, 2) := by decide +kernel
theorem dX8_arrive_150 : decode cX8_arrive 150 = .ok (.ifCond .eq 7, 3) := by decide +kernel
theorem dX8_arrive_153 : decode cX8_arrive 153 = .ok (.iconst 2, 1) := by decide +kernel
theorem dX8_arrive_154 : decode cX8_arrive 154 = .ok (.goto 4, 3) := by decide +kernel
theorem dX8_arrive_157 : decode cX8_arrive 157 = .ok (.iconst 4, 1) := by decide +kernel
theorem dX8_arrive_158 : decode cX8_arrive 158 = .ok (.iload 8, 2) := by decide +kernel
theorem dX8_arrive_160 : decode cX8_arrive 160 = .ok (.ifCond .eq 8, 3) := by decide +kernel
theorem dX8_arrive_163 : decode cX8_arrive 163 = .ok (.iload_n 3, 1) := by decide +kernel
theorem dX8_arrive_164 : decode cX8_arrive 164 = .ok (.i2l, 1) := by decide +kernel
theorem dX8_arrive_165 : decode cX8_arrive 165 = .ok (.goto 4, 3) := by decide +kernel
theorem dX8_arrive_168 : decode cX8_arrive 168 = .ok (.lconst 0, 1) := by decide +kernel
theorem dX8_arrive_169 : decode cX8_arrive 169 = .ok (.invokevirtual 128, 3) := by decide +kernel
theorem dX8_arrive_172 : decode cX8_arrive 172 = .ok (.iconst 1, 1) := by decide +kernel
theorem dX8_arrive_173 : decode cX8_arrive 173 = .ok (.istore 6, 2) := by decide +kernel
theorem dX8_arrive_175 : decode cX8_arrive 175 = .ok (.aload_n 0, 1) := by decide +kernel
theorem dX8_arrive_176 : decode cX8_arrive 176 = .ok (.invokevirtual 149, 3) := by decide +kernel
theorem dX8_arrive_179 : decode cX8_arrive 179 = .ok (.iload 6, 2) := by decide +kernel
theorem dX8_arrive_181 : decode cX8_arrive 181 = .ok (.ifCond .eq 7, 3) := by decide +kernel
theorem dX8_arrive_184 : decode cX8_arrive 184 = .ok (.iconst 1, 1) := by decide +kernel
theorem dX8_arrive_185 : decode cX8_arrive 185 = .ok (.goto 4, 3) := by decide +kernel
theorem dX8_arrive_188 : decode cX8_arrive 188 = .ok (.iconst 0, 1) := by decide +kernel
theorem dX8_arrive_189 : decode cX8_arrive 189 = .ok (.ireturn, 1) := by decide +kernel
theorem dX8_keep_0 : decode cX8_keep 0 = .ok (.aload_n 0, 1) := by decide +kernel
theorem dX8_keep_1 : decode cX8_keep 1 = .ok (.getfield 7, 3) := by decide +kernel
theorem dX8_keep_4 : decode cX8_keep 4 = .ok (.iconst 3, 1) := by decide +kernel
theorem dX8_keep_5 : decode cX8_keep 5 = .ok (.iaload, 1) := by decide +kernel
theorem dX8_keep_6 : decode cX8_keep 6 = .ok (.ifCond .ne 4, 3) := by decide +kernel
theorem dX8_keep_9 : decode cX8_keep 9 = .ok (.return_, 1) := by decide +kernel
theorem dX8_keep_10 : decode cX8_keep 10 = .ok (.aload_n 0, 1) := by decide +kernel
theorem dX8_keep_11 : decode cX8_keep 11 = .ok (.lload_n 1, 1) := by decide +kernel
theorem dX8_keep_12 : decode cX8_keep 12 = .ok (.invokevirtual 121, 3) := by decide +kernel
theorem dX8_keep_15 : decode cX8_keep 15 = .ok (.istore 5, 2) := by decide +kernel
theorem dX8_keep_17 : decode cX8_keep 17 = .ok (.iload 5, 2) := by decide +kernel
theorem dX8_keep_19 : decode cX8_keep 19 = .ok (.ifCond .ge 31, 3) := by decide +kernel
theorem dX8_keep_22 : decode cX8_keep 22 = .ok (.aload_n 0, 1) := by decide +kernel
theorem dX8_keep_23 : decode cX8_keep 23 = .ok (.getfield 101, 3) := by decide +kernel
theorem dX8_keep_26 : decode cX8_keep 26 = .ok (.bipush 8, 2) := by decide +kernel
theorem dX8_keep_28 : decode cX8_keep 28 = .ok (.if_icmp .ge 22, 3) := by decide +kernel
theorem dX8_keep_31 : decode cX8_keep 31 = .ok (.aload_n 0, 1) := by decide +kernel
theorem dX8_keep_32 : decode cX8_keep 32 = .ok (.getfield 101, 3) := by decide +kernel
theorem dX8_keep_35 : decode cX8_keep 35 = .ok (.istore 5, 2) := by decide +kernel
theorem dX8_keep_37 : decode cX8_keep 37 = .ok (.aload_n 0, 1) := by decide +kernel
theorem dX8_keep_38 : decode cX8_keep 38 = .ok (.dup, 1) := by decide +kernel
theorem dX8_keep_39 : decode cX8_keep 39 = .ok (.getfield 101, 3) := by decide +kernel
theorem dX8_keep_42 : decode cX8_keep 42 = .ok (.iconst 1, 1) := by decide +kernel
theorem dX8_keep_43 : decode cX8_keep 43 = .ok (.iadd, 1) := by decide +kernel
theorem dX8_keep_44 : decode cX8_keep 44 = .ok (.putfield 101, 3) := by decide +kernel
theorem dX8_keep_47 : decode cX8_keep 47 = .ok (.goto 88, 3) := by decide +kernel
theorem dX8_keep_50 : decode cX8_keep 50 = .ok (.iload 5, 2) := by decide +kernel
theorem dX8_keep_52 : decode cX8_keep 52 = .ok (.ifCond .ge 83, 3) := by decide +kernel
theorem dX8_keep_55 : decode cX8_keep 55 = .ok (.iconst 0, 1) := by decide +kernel
theorem dX8_keep_56 : decode cX8_keep 56 = .ok (.istore 5, 2) := by decide +kernel
theorem dX8_keep_58 : decode cX8_keep 58 = .ok (.iconst 1, 1) := by decide +kernel
theorem dX8_keep_59 : decode cX8_keep 59 = .ok (.istore 6, 2) := by decide +kernel
theorem dX8_keep_61 : decode cX8_keep 61 = .ok (.iload 6, 2) := by decide +kernel
theorem dX8_keep_63 : decode cX8_keep 63 = .ok (.bipush 8, 2) := by decide +kernel
theorem dX8_keep_65 : decode cX8_keep 65 = .ok (.if_icmp .ge 70, 3) := by decide +kernel
theorem dX8_keep_68 : decode cX8_keep 68 = .ok (.aload_n 0, 1) := by decide +kernel
theorem dX8_keep_69 : decode cX8_keep 69 = .ok (.getfield 75, 3) := by decide +kernel
theorem dX8_keep_72 : decode cX8_keep 72 = .ok (.iload 6, 2) := by decide +kernel
theorem dX8_keep_74 : decode cX8_keep 74 = .ok (.iaload, 1) := by decide +kernel
theorem dX8_keep_75 : decode cX8_keep 75 = .ok (.aload_n 0, 1) := by decide +kernel
theorem dX8_keep_76 : decode cX8_keep 76 = .ok (.getfield 75, 3) := by decide +kernel
theorem dX8_keep_79 : decode cX8_keep 79 = .ok (.iload 5, 2) := by decide +kernel
theorem dX8_keep_81 : decode cX8_keep 81 = .ok (.iaload, 1) := by decide +kernel
theorem dX8_keep_82 : decode cX8_keep 82 = .ok (.if_icmp .lt 38, 3) := by decide +kernel
theorem dX8_keep_85 : decode cX8_keep 85 = .ok (.aload_n 0, 1) := by decide +kernel
theorem dX8_keep_86 : decode cX8_keep 86 = .ok (.getfield 75, 3) := by decide +kernel
theorem dX8_keep_89 : decode cX8_keep 89 = .ok (.iload 6, 2) := by decide +kernel
theorem dX8_keep_91 : decode cX8_keep 91 = .ok (.iaload, 1) := by decide +kernel
theorem dX8_keep_92 : decode cX8_keep 92 = .ok (.aload_n 0, 1) := by decide +kernel
theorem dX8_keep_93 : decode cX8_keep 93 = .ok (.getfield 75, 3) := by decide +kernel
theorem dX8_keep_96 : decode cX8_keep 96 = .ok (.iload 5, 2) := by decide +kernel
theorem dX8_keep_98 : decode cX8_keep 98 = .ok (.iaload, 1) := by decide +kernel
theorem dX8_keep_99 : decode cX8_keep 99 = .ok (.if_icmp .ne 26, 3) := by decide +kernel
theorem dX8_keep_102 : decode cX8_keep 102 = .ok (.aload_n 0, 1) := by decide +kernel
theorem dX8_keep_103 : decode cX8_keep 103 = .ok (.getfield 69, 3) := by decide +kernel
theorem dX8_keep_106 : decode cX8_keep 106 = .ok (.iload 6, 2) := by decide +kernel
theorem dX8_keep_108 : decode cX8_keep 108 = .ok (.laload, 1) := by decide +kernel
theorem dX8_keep_109 : decode cX8_keep 109 = .ok (.aload_n 0, 1) := by decide +kernel
theorem dX8_keep_110 : decode cX8_keep 110 = .ok (.getfield 69, 3) := by decide +kernel
theorem dX8_keep_113 : decode cX8_keep 113 = .ok (.iload 5, 2) := by decide +kernel
theorem dX8_keep_115 : decode cX8_keep 115 = .ok (.laload, 1) := by decide +kernel
theorem dX8_keep_116 : decode cX8_keep 116 = .ok (.lcmp, 1) := by decide +kernel
theorem dX8_keep_117 : decode cX8_keep 117 = .ok (.ifCond .ge 8, 3) := by decide +kernel
theorem dX8_keep_120 : decode cX8_keep 120 = .ok (.iload 6, 2) := by decide +kernel
theorem dX8_keep_122 : decode cX8_keep 122 = .ok (.goto 5, 3) := by decide +kernel
theorem dX8_keep_125 : decode cX8_keep 125 = .ok (.iload 5, 2) := by decide +kernel
theorem dX8_keep_127 : decode cX8_keep 127 = .ok (.istore 5, 2) := by decide +kernel
theorem dX8_keep_129 : decode cX8_keep 129 = .ok (.iinc 6 1, 3) := by decide +kernel
theorem dX8_keep_132 : decode cX8_keep 132 = .ok (.goto (-71), 3) := by decide +kernel
theorem dX8_keep_135 : decode cX8_keep 135 = .ok (.aload_n 0, 1) := by decide +kernel
theorem dX8_keep_136 : decode cX8_keep 136 = .ok (.getfield 69, 3) := by decide +kernel
theorem dX8_keep_139 : decode cX8_keep 139 = .ok (.iload 5, 2) := by decide +kernel
theorem dX8_keep_141 : decode cX8_keep 141 = .ok (.lload_n 1, 1) := by decide +kernel
theorem dX8_keep_142 : decode cX8_keep 142 = .ok (.lastore, 1) := by decide +kernel
theorem dX8_keep_143 : decode cX8_keep 143 = .ok (.aload_n 0, 1) := by decide +kernel
theorem dX8_keep_144 : decode cX8_keep 144 = .ok (.getfield 72, 3) := by decide +kernel
theorem dX8_keep_147 : decode cX8_keep 147 = .ok (.iload 5, 2) := by decide +kernel
theorem dX8_keep_149 : decode cX8_keep 149 = .ok (.lload_n 3, 1) := by decide +kernel
theorem dX8_keep_150 : decode cX8_keep 150 = .ok (.lastore, 1) := by decide +kernel
theorem dX8_keep_151 : decode cX8_keep 151 = .ok (.aload_n 0, 1) := by decide +kernel
theorem dX8_keep_152 : decode cX8_keep 152 = .ok (.getfield 75, 3) := by decide +kernel
theorem dX8_keep_155 : decode cX8_keep 155 = .ok (.iload 5, 2) := by decide +kernel
theorem dX8_keep_157 : decode cX8_keep 157 = .ok (.aload_n 0, 1) := by decide +kernel
theorem dX8_keep_158 : decode cX8_keep 158 = .ok (.getfield 125, 3) := by decide +kernel
theorem dX8_keep_161 : decode cX8_keep 161 = .ok (.aload_n 0, 1) := by decide +kernel
theorem dX8_keep_162 : decode cX8_keep 162 = .ok (.getfield 7, 3) := by decide +kernel
theorem dX8_keep_165 : decode cX8_keep 165 = .ok (.iconst 3, 1) := by decide +kernel
theorem dX8_keep_166 : decode cX8_keep 166 = .ok (.iaload, 1) := by decide +kernel
theorem dX8_keep_167 : decode cX8_keep 167 = .ok (.iadd, 1) := by decide +kernel
theorem dX8_keep_168 : decode cX8_keep 168 = .ok (.iastore, 1) := by decide +kernel
theorem dX8_keep_169 : decode cX8_keep 169 = .ok (.return_, 1) := by decide +kernel
theorem dX8_lose_0 : decode cX8_lose 0 = .ok (.aload_n 0, 1) := by decide +kernel
theorem dX8_lose_1 : decode cX8_lose 1 = .ok (.iload_n 1, 1) := by decide +kernel
theorem dX8_lose_2 : decode cX8_lose 2 = .ok (.iload_n 2, 1) := by decide +kernel
theorem dX8_lose_3 : decode cX8_lose 3 = .ok (.invokevirtual 161, 3) := by decide +kernel
theorem dX8_lose_6 : decode cX8_lose 6 = .ok (.ifCond .ne 5, 3) := by decide +kernel
theorem dX8_lose_9 : decode cX8_lose 9 = .ok (.iconst (-1), 1) := by decide +kernel
theorem dX8_lose_10 : decode cX8_lose 10 = .ok (.ireturn, 1) := by decide +kernel
theorem dX8_lose_11 : decode cX8_lose 11 = .ok (.aload_n 0, 1) := by decide +kernel
theorem dX8_lose_12 : decode cX8_lose 12 = .ok (.iload_n 1, 1) := by decide +kernel
theorem dX8_lose_13 : decode cX8_lose 13 = .ok (.iload_n 2, 1) := by decide +kernel
theorem dX8_lose_14 : decode cX8_lose 14 = .ok (.invokevirtual 165, 3) := by decide +kernel
theorem dX8_lose_17 : decode cX8_lose 17 = .ok (.aload_n 0, 1) := by decide +kernel
theorem dX8_lose_18 : decode cX8_lose 18 = .ok (.invokevirtual 149, 3) := by decide +kernel
theorem dX8_lose_21 : decode cX8_lose 21 = .ok (.aload_n 0, 1) := by decide +kernel
theorem dX8_lose_22 : decode cX8_lose 22 = .ok (.getfield 57, 3) := by decide +kernel
theorem dX8_lose_25 : decode cX8_lose 25 = .ok (.iload_n 1, 1) := by decide +kernel
theorem dX8_lose_26 : decode cX8_lose 26 = .ok (.iaload, 1) := by decide +kernel
theorem dX8_lose_27 : decode cX8_lose 27 = .ok (.ireturn, 1) := by decide +kernel
theorem dX8_twice_0 : decode cX8_twice 0 = .ok (.aload_n 0, 1) := by decide +kernel
theorem dX8_twice_1 : decode cX8_twice 1 = .ok (.iload_n 1, 1) := by decide +kernel
theorem dX8_twice_2 : decode cX8_twice 2 = .ok (.iload_n 2, 1) := by decide +kernel
theorem dX8_twice_3 : decode cX8_twice 3 = .ok (.invokevirtual 161, 3) := by decide +kernel
theorem dX8_twice_6 : decode cX8_twice 6 = .ok (.ifCond .ne 5, 3) := by decide +kernel
theorem dX8_twice_9 : decode cX8_twice 9 = .ok (.iconst (-1), 1) := by decide +kernel
theorem dX8_twice_10 : decode cX8_twice 10 = .ok (.ireturn, 1) := by decide +kernel
theorem dX8_twice_11 : decode cX8_twice 11 = .ok (.aload_n 0, 1) := by decide +kernel
theorem dX8_twice_12 : decode cX8_twice 12 = .ok (.getfield 57, 3) := by decide +kernel
theorem dX8_twice_15 : decode cX8_twice 15 = .ok (.iload_n 1, 1) := by decide +kernel
theorem dX8_twice_16 : decode cX8_twice 16 = .ok (.iaload, 1) := by decide +kernel
theorem dX8_twice_17 : decode cX8_twice 17 = .ok (.bipush 100, 2) := by decide +kernel
theorem dX8_twice_19 : decode cX8_twice 19 = .ok (.if_icmp .ne 6, 3) := by decide +kernel
theorem dX8_twice_22 : decode cX8_twice 22 = .ok (.bipush (-4), 2) := by decide +kernel
theorem dX8_twice_24 : decode cX8_twice 24 = .ok (.ireturn, 1) := by decide +kernel
theorem dX8_twice_25 : decode cX8_twice 25 = .ok (.bipush 100, 2) := by decide +kernel
theorem dX8_twice_27 : decode cX8_twice 27 = .ok (.iload_n 1, 1) := by decide +kernel
theorem dX8_twice_28 : decode cX8_twice 28 = .ok (.imul, 1) := by decide +kernel
theorem dX8_twice_29 : decode cX8_twice 29 = .ok (.iload_n 2, 1) := by decide +kernel
theorem dX8_twice_30 : decode cX8_twice 30 = .ok (.iadd, 1) := by decide +kernel
theorem dX8_twice_31 : decode cX8_twice 31 = .ok (.istore_n 3, 1) := by decide +kernel
theorem dX8_twice_32 : decode cX8_twice 32 = .ok (.aload_n 0, 1) := by decide +kernel
theorem dX8_twice_33 : decode cX8_twice 33 = .ok (.iload_n 1, 1) := by decide +kernel
theorem dX8_twice_34 : decode cX8_twice 34 = .ok (.aload_n 0, 1) := by decide +kernel
theorem dX8_twice_35 : decode cX8_twice 35 = .ok (.getfield 48, 3) := by decide +kernel
theorem dX8_twice_38 : decode cX8_twice 38 = .ok (.iload_n 3, 1) := by decide +kernel
theorem dX8_twice_39 : decode cX8_twice 39 = .ok (.iaload, 1) := by decide +kernel
theorem dX8_twice_40 : decode cX8_twice 40 = .ok (.aload_n 0, 1) := by decide +kernel
theorem dX8_twice_41 : decode cX8_twice 41 = .ok (.getfield 51, 3) := by decide +kernel
theorem dX8_twice_44 : decode cX8_twice 44 = .ok (.iload_n 3, 1) := by decide +kernel
theorem dX8_twice_45 : decode cX8_twice 45 = .ok (.iaload, 1) := by decide +kernel
theorem dX8_twice_46 : decode cX8_twice 46 = .ok (.aload_n 0, 1) := by decide +kernel
theorem dX8_twice_47 : decode cX8_twice 47 = .ok (.getfield 54, 3) := by decide +kernel
theorem dX8_twice_50 : decode cX8_twice 50 = .ok (.iload_n 3, 1) := by decide +kernel
theorem dX8_twice_51 : decode cX8_twice 51 = .ok (.laload, 1) := by decide +kernel
theorem dX8_twice_52 : decode cX8_twice 52 = .ok (.invokevirtual 138, 3) := by decide +kernel
theorem dX8_twice_55 : decode cX8_twice 55 = .ok (.aload_n 0, 1) := by decide +kernel
theorem dX8_twice_56 : decode cX8_twice 56 = .ok (.invokevirtual 149, 3) := by decide +kernel
theorem dX8_twice_59 : decode cX8_twice 59 = .ok (.aload_n 0, 1) := by decide +kernel
theorem dX8_twice_60 : decode cX8_twice 60 = .ok (.getfield 57, 3) := by decide +kernel
theorem dX8_twice_63 : decode cX8_twice 63 = .ok (.iload_n 1, 1) := by decide +kernel
theorem dX8_twice_64 : decode cX8_twice 64 = .ok (.iaload, 1) := by decide +kernel
theorem dX8_twice_65 : decode cX8_twice 65 = .ok (.ireturn, 1) := by decide +kernel
theorem dX8_under_0 : decode cX8_under 0 = .ok (.aload_n 0, 1) := by decide +kernel
theorem dX8_under_1 : decode cX8_under 1 = .ok (.iload_n 1, 1) := by decide +kernel
theorem dX8_under_2 : decode cX8_under 2 = .ok (.iload_n 2, 1) := by decide +kernel
theorem dX8_under_3 : decode cX8_under 3 = .ok (.invokevirtual 161, 3) := by decide +kernel
theorem dX8_under_6 : decode cX8_under 6 = .ok (.ifCond .eq 17, 3) := by decide +kernel
theorem dX8_under_9 : decode cX8_under 9 = .ok (.aload_n 0, 1) := by decide +kernel
theorem dX8_under_10 : decode cX8_under 10 = .ok (.getfield 48, 3) := by decide +kernel
theorem dX8_under_13 : decode cX8_under 13 = .ok (.bipush 100, 2) := by decide +kernel
theorem dX8_under_15 : decode cX8_under 15 = .ok (.iload_n 1, 1) := by decide +kernel
theorem dX8_under_16 : decode cX8_under 16 = .ok (.imul, 1) := by decide +kernel
theorem dX8_under_17 : decode cX8_under 17 = .ok (.iload_n 2, 1) := by decide +kernel
theorem dX8_under_18 : decode cX8_under 18 = .ok (.iadd, 1) := by decide +kernel
theorem dX8_under_19 : decode cX8_under 19 = .ok (.iaload, 1) := by decide +kernel
theorem dX8_under_20 : decode cX8_under 20 = .ok (.goto 4, 3) := by decide +kernel
theorem dX8_under_23 : decode cX8_under 23 = .ok (.iconst (-1), 1) := by decide +kernel
theorem dX8_under_24 : decode cX8_under 24 = .ok (.ireturn, 1) := by decide +kernel
theorem dX8_out_0 : decode cX8_out 0 = .ok (.iload_n 1, 1) := by decide +kernel
theorem dX8_out_1 : decode cX8_out 1 = .ok (.ifCond .lt 20, 3) := by decide +kernel
theorem dX8_out_4 : decode cX8_out 4 = .ok (.iload_n 1, 1) := by decide +kernel
theorem dX8_out_5 : decode cX8_out 5 = .ok (.aload_n 0, 1) := by decide +kernel
theorem dX8_out_6 : decode cX8_out 6 = .ok (.getfield 146, 3) := by decide +kernel
theorem dX8_out_9 : decode cX8_out 9 = .ok (.if_icmp .ge 12, 3) := by decide +kernel
theorem dX8_out_12 : decode cX8_out 12 = .ok (.iload_n 2, 1) := by decide +kernel
theorem dX8_out_13 : decode cX8_out 13 = .ok (.ifCond .lt 8, 3) := by decide +kernel
theorem dX8_out_16 : decode cX8_out 16 = .ok (.iload_n 2, 1) := by decide +kernel
theorem dX8_out_17 : decode cX8_out 17 = .ok (.iconst 2, 1) := by decide +kernel
theorem dX8_out_18 : decode cX8_out 18 = .ok (.if_icmp .le 5, 3) := by decide +kernel
theorem dX8_out_21 : decode cX8_out 21 = .ok (.iconst (-1), 1) := by decide +kernel
theorem dX8_out_22 : decode cX8_out 22 = .ok (.ireturn, 1) := by decide +kernel
theorem dX8_out_23 : decode cX8_out 23 = .ok (.iload_n 2, 1) := by decide +kernel
theorem dX8_out_24 : decode cX8_out 24 = .ok (.ifCond .ne 12, 3) := by decide +kernel
theorem dX8_out_27 : decode cX8_out 27 = .ok (.aload_n 0, 1) := by decide +kernel
theorem dX8_out_28 : decode cX8_out 28 = .ok (.getfield 42, 3) := by decide +kernel
theorem dX8_out_31 : decode cX8_out 31 = .ok (.iload_n 1, 1) := by decide +kernel
theorem dX8_out_32 : decode cX8_out 32 = .ok (.iaload, 1) := by decide +kernel
theorem dX8_out_33 : decode cX8_out 33 = .ok (.goto 28, 3) := by decide +kernel
theorem dX8_out_36 : decode cX8_out 36 = .ok (.iload_n 2, 1) := by decide +kernel
theorem dX8_out_37 : decode cX8_out 37 = .ok (.iconst 1, 1) := by decide +kernel
theorem dX8_out_38 : decode cX8_out 38 = .ok (.if_icmp .ne 17, 3) := by decide +kernel
theorem dX8_out_41 : decode cX8_out 41 = .ok (.aload_n 0, 1) := by decide +kernel
theorem dX8_out_42 : decode cX8_out 42 = .ok (.getfield 27, 3) := by decide +kernel
theorem dX8_out_45 : decode cX8_out 45 = .ok (.aload_n 0, 1) := by decide +kernel
theorem dX8_out_46 : decode cX8_out 46 = .ok (.getfield 42, 3) := by decide +kernel
theorem dX8_out_49 : decode cX8_out 49 = .ok (.iload_n 1, 1) := by decide +kernel
theorem dX8_out_50 : decode cX8_out 50 = .ok (.iaload, 1) := by decide +kernel
theorem dX8_out_51 : decode cX8_out 51 = .ok (.iaload, 1) := by decide +kernel
theorem dX8_out_52 : decode cX8_out 52 = .ok (.goto 9, 3) := by decide +kernel
theorem dX8_out_55 : decode cX8_out 55 = .ok (.aload_n 0, 1) := by decide +kernel
theorem dX8_out_56 : decode cX8_out 56 = .ok (.getfield 45, 3) := by decide +kernel
theorem dX8_out_59 : decode cX8_out 59 = .ok (.iload_n 1, 1) := by decide +kernel
theorem dX8_out_60 : decode cX8_out 60 = .ok (.iaload, 1) := by decide +kernel
theorem dX8_out_61 : decode cX8_out 61 = .ok (.ireturn, 1) := by decide +kernel
theorem dX8_isItem_0 : decode cX8_isItem 0 = .ok (.iload_n 1, 1) := by decide +kernel
theorem dX8_isItem_1 : decode cX8_isItem 1 = .ok (.ifCond .lt 15, 3) := by decide +kernel
theorem dX8_isItem_4 : decode cX8_isItem 4 = .ok (.iload_n 1, 1) := by decide +kernel
theorem dX8_isItem_5 : decode cX8_isItem 5 = .ok (.aload_n 0, 1) := by decide +kernel
theorem dX8_isItem_6 : decode cX8_isItem 6 = .ok (.getfield 98, 3) := by decide +kernel
theorem dX8_isItem_9 : decode cX8_isItem 9 = .ok (.if_icmp .ge 7, 3) := by decide +kernel
theorem dX8_isItem_12 : decode cX8_isItem 12 = .ok (.iconst 1, 1) := by decide +kernel
theorem dX8_isItem_13 : decode cX8_isItem 13 = .ok (.goto 4, 3) := by decide +kernel
theorem dX8_isItem_16 : decode cX8_isItem 16 = .ok (.iconst 0, 1) := by decide +kernel
theorem dX8_isItem_17 : decode cX8_isItem 17 = .ok (.ireturn, 1) := by decide +kernel
theorem dX8_value_0 : decode cX8_value 0 = .ok (.aload_n 0, 1) := by decide +kernel
theorem dX8_value_1 : decode cX8_value 1 = .ok (.iload_n 1, 1) := by decide +kernel
theorem dX8_value_2 : decode cX8_value 2 = .ok (.invokevirtual 176, 3) := by decide +kernel
theorem dX8_value_5 : decode cX8_value 5 = .ok (.ifCond .eq 32, 3) := by decide +kernel
theorem dX8_value_8 : decode cX8_value 8 = .ok (.aload_n 0, 1) := by decide +kernel
theorem dX8_value_9 : decode cX8_value 9 = .ok (.getfield 24, 3) := by decide +kernel
theorem dX8_value_12 : decode cX8_value 12 = .ok (.iload_n 1, 1) := by decide +kernel
theorem dX8_value_13 : decode cX8_value 13 = .ok (.iaload, 1) := by decide +kernel
theorem dX8_value_14 : decode cX8_value 14 = .ok (.iconst 2, 1) := by decide +kernel
theorem dX8_value_15 : decode cX8_value 15 = .ok (.if_icmp .eq 13, 3) := by decide +kernel
theorem dX8_value_18 : decode cX8_value 18 = .ok (.aload_n 0, 1) := by decide +kernel
theorem dX8_value_19 : decode cX8_value 19 = .ok (.getfield 24, 3) := by decide +kernel
theorem dX8_value_22 : decode cX8_value 22 = .ok (.iload_n 1, 1) := by decide +kernel
theorem dX8_value_23 : decode cX8_value 23 = .ok (.iaload, 1) := by decide +kernel
theorem dX8_value_24 : decode cX8_value 24 = .ok (.iconst 3, 1) := by decide +kernel
theorem dX8_value_25 : decode cX8_value 25 = .ok (.if_icmp .ne 12, 3) := by decide +kernel
theorem dX8_value_28 : decode cX8_value 28 = .ok (.aload_n 0, 1) := by decide +kernel
theorem dX8_value_29 : decode cX8_value 29 = .ok (.getfield 30, 3) := by decide +kernel
theorem dX8_value_32 : decode cX8_value 32 = .ok (.iload_n 1, 1) := by decide +kernel
theorem dX8_value_33 : decode cX8_value 33 = .ok (.laload, 1) := by decide +kernel
theorem dX8_value_34 : decode cX8_value 34 = .ok (.goto 4, 3) := by decide +kernel
theorem dX8_value_37 : decode cX8_value 37 = .ok (.lconst 0, 1) := by decide +kernel
theorem dX8_value_38 : decode cX8_value 38 = .ok (.lreturn, 1) := by decide +kernel
theorem dX8_item_0 : decode cX8_item 0 = .ok (.aload_n 0, 1) := by decide +kernel
theorem dX8_item_1 : decode cX8_item 1 = .ok (.iload_n 1, 1) := by decide +kernel
theorem dX8_item_2 : decode cX8_item 2 = .ok (.invokevirtual 176, 3) := by decide +kernel
theorem dX8_item_5 : decode cX8_item 5 = .ok (.ifCond .eq 12, 3) := by decide +kernel
theorem dX8_item_8 : decode cX8_item 8 = .ok (.iload_n 2, 1) := by decide +kernel
theorem dX8_item_9 : decode cX8_item 9 = .ok (.ifCond .lt 8, 3) := by decide +kernel
theorem dX8_item_12 : decode cX8_item 12 = .ok (.iload_n 2, 1) := by decide +kernel
theorem dX8_item_13 : decode cX8_item 13 = .ok (.iconst 4, 1) := by decide +kernel
theorem dX8_item_14 : decode cX8_item 14 = .ok (.if_icmp .le 5, 3) := by decide +kernel
theorem dX8_item_17 : decode cX8_item 17 = .ok (.iconst (-1), 1) := by decide +kernel
theorem dX8_item_18 : decode cX8_item 18 = .ok (.ireturn, 1) := by decide +kernel
theorem dX8_item_19 : decode cX8_item 19 = .ok (.iload_n 2, 1) := by decide +kernel
theorem dX8_item_20 : decode cX8_item 20 = .ok (.iconst 1, 1) := by decide +kernel
theorem dX8_item_21 : decode cX8_item 21 = .ok (.if_icmp .ne 34, 3) := by decide +kernel
theorem dX8_item_24 : decode cX8_item 24 = .ok (.aload_n 0, 1) := by decide +kernel
theorem dX8_item_25 : decode cX8_item 25 = .ok (.getfield 24, 3) := by decide +kernel
theorem dX8_item_28 : decode cX8_item 28 = .ok (.iload_n 1, 1) := by decide +kernel
theorem dX8_item_29 : decode cX8_item 29 = .ok (.iaload, 1) := by decide +kernel
theorem dX8_item_30 : decode cX8_item 30 = .ok (.iconst 2, 1) := by decide +kernel
theorem dX8_item_31 : decode cX8_item 31 = .ok (.if_icmp .eq 13, 3) := by decide +kernel
theorem dX8_item_34 : decode cX8_item 34 = .ok (.aload_n 0, 1) := by decide +kernel
theorem dX8_item_35 : decode cX8_item 35 = .ok (.getfield 24, 3) := by decide +kernel
theorem dX8_item_38 : decode cX8_item 38 = .ok (.iload_n 1, 1) := by decide +kernel
theorem dX8_item_39 : decode cX8_item 39 = .ok (.iaload, 1) := by decide +kernel
theorem dX8_item_40 : decode cX8_item 40 = .ok (.iconst 3, 1) := by decide +kernel
theorem dX8_item_41 : decode cX8_item 41 = .ok (.if_icmp .ne 12, 3) := by decide +kernel
theorem dX8_item_44 : decode cX8_item 44 = .ok (.aload_n 0, 1) := by decide +kernel
theorem dX8_item_45 : decode cX8_item 45 = .ok (.getfield 27, 3) := by decide +kernel
theorem dX8_item_48 : decode cX8_item 48 = .ok (.iload_n 1, 1) := by decide +kernel
theorem dX8_item_49 : decode cX8_item 49 = .ok (.iaload, 1) := by decide +kernel
theorem dX8_item_50 : decode cX8_item 50 = .ok (.goto 4, 3) := by decide +kernel
theorem dX8_item_53 : decode cX8_item 53 = .ok (.iconst (-1), 1) := by decide +kernel
theorem dX8_item_54 : decode cX8_item 54 = .ok (.ireturn, 1) := by decide +kernel
theorem dX8_item_55 : decode cX8_item 55 = .ok (.iload_n 2, 1) := by decide +kernel
theorem dX8_item_56 : decode cX8_item 56 = .ok (.ifCond .ne 12, 3) := by decide +kernel
theorem dX8_item_59 : decode cX8_item 59 = .ok (.aload_n 0, 1) := by decide +kernel
theorem dX8_item_60 : decode cX8_item 60 = .ok (.getfield 24, 3) := by decide +kernel
theorem dX8_item_63 : decode cX8_item 63 = .ok (.iload_n 1, 1) := by decide +kernel
theorem dX8_item_64 : decode cX8_item 64 = .ok (.iaload, 1) := by decide +kernel
theorem dX8_item_65 : decode cX8_item 65 = .ok (.goto 52, 3) := by decide +kernel
theorem dX8_item_68 : decode cX8_item 68 = .ok (.iload_n 2, 1) := by decide +kernel
theorem dX8_item_69 : decode cX8_item 69 = .ok (.iconst 2, 1) := by decide +kernel
theorem dX8_item_70 : decode cX8_item 70 = .ok (.if_icmp .ne 12, 3) := by decide +kernel
theorem dX8_item_73 : decode cX8_item 73 = .ok (.aload_n 0, 1) := by decide +kernel
theorem dX8_item_74 : decode cX8_item 74 = .ok (.getfield 33, 3) := by decide +kernel
theorem dX8_item_77 : decode cX8_item 77 = .ok (.iload_n 1, 1) := by decide +kernel
theorem dX8_item_78 : decode cX8_item 78 = .ok (.iaload, 1) := by decide +kernel
theorem dX8_item_79 : decode cX8_item 79 = .ok (.goto 38, 3) := by decide +kernel
theorem dX8_item_82 : decode cX8_item 82 = .ok (.iload_n 2, 1) := by decide +kernel
theorem dX8_item_83 : decode cX8_item 83 = .ok (.iconst 3, 1) := by decide +kernel
theorem dX8_item_84 : decode cX8_item 84 = .ok (.if_icmp .ne 20, 3) := by decide +kernel
theorem dX8_item_87 : decode cX8_item 87 = .ok (.aload_n 0, 1) := by decide +kernel
theorem dX8_item_88 : decode cX8_item 88 = .ok (.getfield 13, 3) := by decide +kernel
theorem dX8_item_91 : decode cX8_item 91 = .ok (.iload_n 1, 1) := by decide +kernel
theorem dX8_item_92 : decode cX8_item 92 = .ok (.baload, 1) := by decide +kernel
theorem dX8_item_93 : decode cX8_item 93 = .ok (.ifCond .eq 7, 3) := by decide +kernel
theorem dX8_item_96 : decode cX8_item 96 = .ok (.iconst 1, 1) := by decide +kernel
theorem dX8_item_97 : decode cX8_item 97 = .ok (.goto 20, 3) := by decide +kernel
theorem dX8_item_100 : decode cX8_item 100 = .ok (.iconst 0, 1) := by decide +kernel
theorem dX8_item_101 : decode cX8_item 101 = .ok (.goto 16, 3) := by decide +kernel
theorem dX8_item_104 : decode cX8_item 104 = .ok (.aload_n 0, 1) := by decide +kernel
theorem dX8_item_105 : decode cX8_item 105 = .ok (.iload_n 1, 1) := by decide +kernel
theorem dX8_item_106 : decode cX8_item 106 = .ok (.invokevirtual 111, 3) := by decide +kernel
theorem dX8_item_109 : decode cX8_item 109 = .ok (.ifCond .lt 7, 3) := by decide +kernel
theorem dX8_item_112 : decode cX8_item 112 = .ok (.iconst 1, 1) := by decide +kernel
theorem dX8_item_113 : decode cX8_item 113 = .ok (.goto 4, 3) := by decide +kernel
theorem dX8_item_116 : decode cX8_item 116 = .ok (.iconst 0, 1) := by decide +kernel
theorem dX8_item_117 : decode cX8_item 117 = .ok (.ireturn, 1) := by decide +kernel
theorem dX8_count_0 : decode cX8_count 0 = .ok (.aload_n 0, 1) := by decide +kernel
theorem dX8_count_1 : decode cX8_count 1 = .ok (.lload_n 1, 1) := by decide +kernel
theorem dX8_count_2 : decode cX8_count 2 = .ok (.invokevirtual 169, 3) := by decide +kernel
theorem dX8_count_5 : decode cX8_count 5 = .ok (.istore_n 3, 1) := by decide +kernel
theorem dX8_count_6 : decode cX8_count 6 = .ok (.iload_n 3, 1) := by decide +kernel
theorem dX8_count_7 : decode cX8_count 7 = .ok (.ifCond .ge 7, 3) := by decide +kernel
theorem dX8_count_10 : decode cX8_count 10 = .ok (.iconst 0, 1) := by decide +kernel
theorem dX8_count_11 : decode cX8_count 11 = .ok (.goto 9, 3) := by decide +kernel
theorem dX8_count_14 : decode cX8_count 14 = .ok (.aload_n 0, 1) := by decide +kernel
theorem dX8_count_15 : decode cX8_count 15 = .ok (.getfield 60, 3) := by decide +kernel
theorem dX8_count_18 : decode cX8_count 18 = .ok (.iload_n 3, 1) := by decide +kernel
theorem dX8_count_19 : decode cX8_count 19 = .ok (.iaload, 1) := by decide +kernel
theorem dX8_count_20 : decode cX8_count 20 = .ok (.ireturn, 1) := by decide +kernel
theorem dX8_kept_0 : decode cX8_kept 0 = .ok (.aload_n 0, 1) := by decide +kernel
theorem dX8_kept_1 : decode cX8_kept 1 = .ok (.lload_n 1, 1) := by decide +kernel
theorem dX8_kept_2 : decode cX8_kept 2 = .ok (.invokevirtual 121, 3) := by decide +kernel
theorem dX8_kept_5 : decode cX8_kept 5 = .ok (.istore_n 3, 1) := by decide +kernel
theorem dX8_kept_6 : decode cX8_kept 6 = .ok (.iload_n 3, 1) := by decide +kernel
theorem dX8_kept_7 : decode cX8_kept 7 = .ok (.ifCond .ge 7, 3) := by decide +kernel
theorem dX8_kept_10 : decode cX8_kept 10 = .ok (.iconst (-1), 1) := by decide +kernel
theorem dX8_kept_11 : decode cX8_kept 11 = .ok (.goto 9, 3) := by decide +kernel
theorem dX8_kept_14 : decode cX8_kept 14 = .ok (.aload_n 0, 1) := by decide +kernel
theorem dX8_kept_15 : decode cX8_kept 15 = .ok (.getfield 75, 3) := by decide +kernel
theorem dX8_kept_18 : decode cX8_kept 18 = .ok (.iload_n 3, 1) := by decide +kernel
theorem dX8_kept_19 : decode cX8_kept 19 = .ok (.iaload, 1) := by decide +kernel
theorem dX8_kept_20 : decode cX8_kept 20 = .ok (.ireturn, 1) := by decide +kernel
theorem dX8_save_0 : decode cX8_save 0 = .ok (.iconst 0, 1) := by decide +kernel
theorem dX8_save_1 : decode cX8_save 1 = .ok (.istore_n 1, 1) := by decide +kernel
theorem dX8_save_2 : decode cX8_save 2 = .ok (.iconst 0, 1) := by decide +kernel
theorem dX8_save_3 : decode cX8_save 3 = .ok (.istore_n 2, 1) := by decide +kernel
theorem dX8_save_4 : decode cX8_save 4 = .ok (.iload_n 2, 1) := by decide +kernel
theorem dX8_save_5 : decode cX8_save 5 = .ok (.aload_n 0, 1) := by decide +kernel
theorem dX8_save_6 : decode cX8_save 6 = .ok (.getfield 98, 3) := by decide +kernel
theorem dX8_save_9 : decode cX8_save 9 = .ok (.if_icmp .ge 75, 3) := by decide +kernel
theorem dX8_save_12 : decode cX8_save 12 = .ok (.aload_n 0, 1) := by decide +kernel
theorem dX8_save_13 : decode cX8_save 13 = .ok (.getfield 78, 3) := by decide +kernel
theorem dX8_save_16 : decode cX8_save 16 = .ok (.iload_n 2, 1) := by decide +kernel
theorem dX8_save_17 : decode cX8_save 17 = .ok (.aload_n 0, 1) := by decide +kernel
theorem dX8_save_18 : decode cX8_save 18 = .ok (.getfield 24, 3) := by decide +kernel
theorem dX8_save_21 : decode cX8_save 21 = .ok (.iload_n 2, 1) := by decide +kernel
theorem dX8_save_22 : decode cX8_save 22 = .ok (.iaload, 1) := by decide +kernel
theorem dX8_save_23 : decode cX8_save 23 = .ok (.iastore, 1) := by decide +kernel
theorem dX8_save_24 : decode cX8_save 24 = .ok (.aload_n 0, 1) := by decide +kernel
theorem dX8_save_25 : decode cX8_save 25 = .ok (.getfield 81, 3) := by decide +kernel
theorem dX8_save_28 : decode cX8_save 28 = .ok (.iload_n 2, 1) := by decide +kernel
theorem dX8_save_29 : decode cX8_save 29 = .ok (.aload_n 0, 1) := by decide +kernel
theorem dX8_save_30 : decode cX8_save 30 = .ok (.getfield 27, 3) := by decide +kernel
theorem dX8_save_33 : decode cX8_save 33 = .ok (.iload_n 2, 1) := by decide +kernel
theorem dX8_save_34 : decode cX8_save 34 = .ok (.iaload, 1) := by decide +kernel
theorem dX8_save_35 : decode cX8_save 35 = .ok (.iastore, 1) := by decide +kernel
theorem dX8_save_36 : decode cX8_save 36 = .ok (.aload_n 0, 1) := by decide +kernel
theorem dX8_save_37 : decode cX8_save 37 = .ok (.getfield 84, 3) := by decide +kernel
theorem dX8_save_40 : decode cX8_save 40 = .ok (.iload_n 2, 1) := by decide +kernel
theorem dX8_save_41 : decode cX8_save 41 = .ok (.aload_n 0, 1) := by decide +kernel
theorem dX8_save_42 : decode cX8_save 42 = .ok (.getfield 30, 3) := by decide +kernel
theorem dX8_save_45 : decode cX8_save 45 = .ok (.iload_n 2, 1) := by decide +kernel
theorem dX8_save_46 : decode cX8_save 46 = .ok (.laload, 1) := by decide +kernel
theorem dX8_save_47 : decode cX8_save 47 = .ok (.lastore, 1) := by decide +kernel
theorem dX8_save_48 : decode cX8_save 48 = .ok (.aload_n 0, 1) := by decide +kernel
theorem dX8_save_49 : decode cX8_save 49 = .ok (.getfield 87, 3) := by decide +kernel
theorem dX8_save_52 : decode cX8_save 52 = .ok (.iload_n 2, 1) := by decide +kernel
theorem dX8_save_53 : decode cX8_save 53 = .ok (.aload_n 0, 1) := by decide +kernel
theorem dX8_save_54 : decode cX8_save 54 = .ok (.getfield 33, 3) := by decide +kernel
theorem dX8_save_57 : decode cX8_save 57 = .ok (.iload_n 2, 1) := by decide +kernel
theorem dX8_save_58 : decode cX8_save 58 = .ok (.iaload, 1) := by decide +kernel
theorem dX8_save_59 : decode cX8_save 59 = .ok (.iastore, 1) := by decide +kernel
theorem dX8_save_60 : decode cX8_save 60 = .ok (.iload_n 1, 1) := by decide +kernel
theorem dX8_save_61 : decode cX8_save 61 = .ok (.aload_n 0, 1) := by decide +kernel
theorem dX8_save_62 : decode cX8_save 62 = .ok (.getfield 24, 3) := by decide +kernel
theorem dX8_save_65 : decode cX8_save 65 = .ok (.iload_n 2, 1) := by decide +kernel
theorem dX8_save_66 : decode cX8_save 66 = .ok (.iaload, 1) := by decide +kernel
theorem dX8_save_67 : decode cX8_save 67 = .ok (.iconst 3, 1) := by decide +kernel
theorem dX8_save_68 : decode cX8_save 68 = .ok (.if_icmp .ge 7, 3) := by decide +kernel
theorem dX8_save_71 : decode cX8_save 71 = .ok (.iconst 1, 1) := by decide +kernel
theorem dX8_save_72 : decode cX8_save 72 = .ok (.goto 4, 3) := by decide +kernel
theorem dX8_save_75 : decode cX8_save 75 = .ok (.iconst 0, 1) := by decide +kernel
theorem dX8_save_76 : decode cX8_save 76 = .ok (.iadd, 1) := by decide +kernel
theorem dX8_save_77 : decode cX8_save 77 = .ok (.istore_n 1, 1) := by decide +kernel
theorem dX8_save_78 : decode cX8_save 78 = .ok (.iinc 2 1, 3) := by decide +kernel
theorem dX8_save_81 : decode cX8_save 81 = .ok (.goto (-77), 3) := by decide +kernel
theorem dX8_save_84 : decode cX8_save 84 = .ok (.aload_n 0, 1) := by decide +kernel
theorem dX8_save_85 : decode cX8_save 85 = .ok (.aload_n 0, 1) := by decide +kernel
theorem dX8_save_86 : decode cX8_save 86 = .ok (.getfield 98, 3) := by decide +kernel
theorem dX8_save_89 : decode cX8_save 89 = .ok (.putfield 179, 3) := by decide +kernel
theorem dX8_save_92 : decode cX8_save 92 = .ok (.aload_n 0, 1) := by decide +kernel
theorem dX8_save_93 : decode cX8_save 93 = .ok (.aload_n 0, 1) := by decide +kernel
theorem dX8_save_94 : decode cX8_save 94 = .ok (.getfield 146, 3) := by decide +kernel
theorem dX8_save_97 : decode cX8_save 97 = .ok (.putfield 182, 3) := by decide +kernel
theorem dX8_save_100 : decode cX8_save 100 = .ok (.iload_n 1, 1) := by decide +kernel
theorem dX8_save_101 : decode cX8_save 101 = .ok (.ireturn, 1) := by decide +kernel
theorem dX8_restart_0 : decode cX8_restart 0 = .ok (.aload_n 0, 1) := by decide +kernel
theorem dX8_restart_1 : decode cX8_restart 1 = .ok (.aload_n 0, 1) := by decide +kernel
theorem dX8_restart_2 : decode cX8_restart 2 = .ok (.getfield 182, 3) := by decide +kernel
theorem dX8_restart_5 : decode cX8_restart 5 = .ok (.putfield 146, 3) := by decide +kernel
theorem dX8_restart_8 : decode cX8_restart 8 = .ok (.aload_n 0, 1) := by decide +kernel
theorem dX8_restart_9 : decode cX8_restart 9 = .ok (.iconst 0, 1) := by decide +kernel
theorem dX8_restart_10 : decode cX8_restart 10 = .ok (.putfield 108, 3) := by decide +kernel
theorem dX8_restart_13 : decode cX8_restart 13 = .ok (.aload_n 0, 1) := by decide +kernel
theorem dX8_restart_14 : decode cX8_restart 14 = .ok (.iconst 0, 1) := by decide +kernel
theorem dX8_restart_15 : decode cX8_restart 15 = .ok (.putfield 101, 3) := by decide +kernel
theorem dX8_restart_18 : decode cX8_restart 18 = .ok (.iconst 0, 1) := by decide +kernel
theorem dX8_restart_19 : decode cX8_restart 19 = .ok (.istore_n 1, 1) := by decide +kernel
theorem dX8_restart_20 : decode cX8_restart 20 = .ok (.iload_n 1, 1) := by decide +kernel
theorem dX8_restart_21 : decode cX8_restart 21 = .ok (.aload_n 0, 1) := by decide +kernel
theorem dX8_restart_22 : decode cX8_restart 22 = .ok (.getfield 98, 3) := by decide +kernel
theorem dX8_restart_25 : decode cX8_restart 25 = .ok (.if_icmp .ge 122, 3) := by decide +kernel
theorem dX8_restart_28 : decode cX8_restart 28 = .ok (.iload_n 1, 1) := by decide +kernel
theorem dX8_restart_29 : decode cX8_restart 29 = .ok (.aload_n 0, 1) := by decide +kernel
theorem dX8_restart_30 : decode cX8_restart 30 = .ok (.getfield 179, 3) := by decide +kernel
theorem dX8_restart_33 : decode cX8_restart 33 = .ok (.if_icmp .lt 20, 3) := by decide +kernel
theorem dX8_restart_36 : decode cX8_restart 36 = .ok (.aload_n 0, 1) := by decide +kernel
theorem dX8_restart_37 : decode cX8_restart 37 = .ok (.getfield 24, 3) := by decide +kernel
theorem dX8_restart_40 : decode cX8_restart 40 = .ok (.iload_n 1, 1) := by decide +kernel
theorem dX8_restart_41 : decode cX8_restart 41 = .ok (.iconst 4, 1) := by decide +kernel
theorem dX8_restart_42 : decode cX8_restart 42 = .ok (.iastore, 1) := by decide +kernel
theorem dX8_restart_43 : decode cX8_restart 43 = .ok (.aload_n 0, 1) := by decide +kernel
theorem dX8_restart_44 : decode cX8_restart 44 = .ok (.getfield 33, 3) := by decide +kernel
theorem dX8_restart_47 : decode cX8_restart 47 = .ok (.iload_n 1, 1) := by decide +kernel
theorem dX8_restart_48 : decode cX8_restart 48 = .ok (.iconst 0, 1) := by decide +kernel
theorem dX8_restart_49 : decode cX8_restart 49 = .ok (.iastore, 1) := by decide +kernel
theorem dX8_restart_50 : decode cX8_restart 50 = .ok (.goto 91, 3) := by decide +kernel
theorem dX8_restart_53 : decode cX8_restart 53 = .ok (.aload_n 0, 1) := by decide +kernel
theorem dX8_restart_54 : decode cX8_restart 54 = .ok (.getfield 24, 3) := by decide +kernel
theorem dX8_restart_57 : decode cX8_restart 57 = .ok (.iload_n 1, 1) := by decide +kernel
theorem dX8_restart_58 : decode cX8_restart 58 = .ok (.aload_n 0, 1) := by decide +kernel
theorem dX8_restart_59 : decode cX8_restart 59 = .ok (.getfield 78, 3) := by decide +kernel
theorem dX8_restart_62 : decode cX8_restart 62 = .ok (.iload_n 1, 1) := by decide +kernel
theorem dX8_restart_63 : decode cX8_restart 63 = .ok (.iaload, 1) := by decide +kernel
theorem dX8_restart_64 : decode cX8_restart 64 = .ok (.iastore, 1) := by decide +kernel
theorem dX8_restart_65 : decode cX8_restart 65 = .ok (.aload_n 0, 1) := by decide +kernel
theorem dX8_restart_66 : decode cX8_restart 66 = .ok (.getfield 27, 3) := by decide +kernel
theorem dX8_restart_69 : decode cX8_restart 69 = .ok (.iload_n 1, 1) := by decide +kernel
theorem dX8_restart_70 : decode cX8_restart 70 = .ok (.aload_n 0, 1) := by decide +kernel
theorem dX8_restart_71 : decode cX8_restart 71 = .ok (.getfield 81, 3) := by decide +kernel
theorem dX8_restart_74 : decode cX8_restart 74 = .ok (.iload_n 1, 1) := by decide +kernel
theorem dX8_restart_75 : decode cX8_restart 75 = .ok (.iaload, 1) := by decide +kernel
theorem dX8_restart_76 : decode cX8_restart 76 = .ok (.iastore, 1) := by decide +kernel
theorem dX8_restart_77 : decode cX8_restart 77 = .ok (.aload_n 0, 1) := by decide +kernel
theorem dX8_restart_78 : decode cX8_restart 78 = .ok (.getfield 30, 3) := by decide +kernel
theorem dX8_restart_81 : decode cX8_restart 81 = .ok (.iload_n 1, 1) := by decide +kernel
theorem dX8_restart_82 : decode cX8_restart 82 = .ok (.aload_n 0, 1) := by decide +kernel
theorem dX8_restart_83 : decode cX8_restart 83 = .ok (.getfield 84, 3) := by decide +kernel
theorem dX8_restart_86 : decode cX8_restart 86 = .ok (.iload_n 1, 1) := by decide +kernel
theorem dX8_restart_87 : decode cX8_restart 87 = .ok (.laload, 1) := by decide +kernel
theorem dX8_restart_88 : decode cX8_restart 88 = .ok (.lastore, 1) := by decide +kernel
theorem dX8_restart_89 : decode cX8_restart 89 = .ok (.aload_n 0, 1) := by decide +kernel
theorem dX8_restart_90 : decode cX8_restart 90 = .ok (.getfield 33, 3) := by decide +kernel
theorem dX8_restart_93 : decode cX8_restart 93 = .ok (.iload_n 1, 1) := by decide +kernel
theorem dX8_restart_94 : decode cX8_restart 94 = .ok (.aload_n 0, 1) := by decide +kernel
theorem dX8_restart_95 : decode cX8_restart 95 = .ok (.getfield 87, 3) := by decide +kernel
theorem dX8_restart_98 : decode cX8_restart 98 = .ok (.iload_n 1, 1) := by decide +kernel
theorem dX8_restart_99 : decode cX8_restart 99 = .ok (.iaload, 1) := by decide +kernel
theorem dX8_restart_100 : decode cX8_restart 100 = .ok (.iastore, 1) := by decide +kernel
theorem dX8_restart_101 : decode cX8_restart 101 = .ok (.aload_n 0, 1) := by decide +kernel
theorem dX8_restart_102 : decode cX8_restart 102 = .ok (.getfield 24, 3) := by decide +kernel
theorem dX8_restart_105 : decode cX8_restart 105 = .ok (.iload_n 1, 1) := by decide +kernel
theorem dX8_restart_106 : decode cX8_restart 106 = .ok (.iaload, 1) := by decide +kernel
theorem dX8_restart_107 : decode cX8_restart 107 = .ok (.iconst 1, 1) := by decide +kernel
theorem dX8_restart_108 : decode cX8_restart 108 = .ok (.if_icmp .ne 33, 3) := by decide +kernel
theorem dX8_restart_111 : decode cX8_restart 111 = .ok (.aload_n 0, 1) := by decide +kernel
theorem dX8_restart_112 : decode cX8_restart 112 = .ok (.getfield 33, 3) := by decide +kernel
theorem dX8_restart_115 : decode cX8_restart 115 = .ok (.iload_n 1, 1) := by decide +kernel
theorem dX8_restart_116 : decode cX8_restart 116 = .ok (.dup2, 1) := by decide +kernel
theorem dX8_restart_117 : decode cX8_restart 117 = .ok (.iaload, 1) := by decide +kernel
theorem dX8_restart_118 : decode cX8_restart 118 = .ok (.iconst 1, 1) := by decide +kernel
theorem dX8_restart_119 : decode cX8_restart 119 = .ok (.iadd, 1) := by decide +kernel
theorem dX8_restart_120 : decode cX8_restart 120 = .ok (.iastore, 1) := by decide +kernel
theorem dX8_restart_121 : decode cX8_restart 121 = .ok (.aload_n 0, 1) := by decide +kernel
theorem dX8_restart_122 : decode cX8_restart 122 = .ok (.getfield 39, 3) := by decide +kernel
theorem dX8_restart_125 : decode cX8_restart 125 = .ok (.aload_n 0, 1) := by decide +kernel
theorem dX8_restart_126 : decode cX8_restart 126 = .ok (.getfield 108, 3) := by decide +kernel
theorem dX8_restart_129 : decode cX8_restart 129 = .ok (.iload_n 1, 1) := by decide +kernel
theorem dX8_restart_130 : decode cX8_restart 130 = .ok (.iastore, 1) := by decide +kernel
theorem dX8_restart_131 : decode cX8_restart 131 = .ok (.aload_n 0, 1) := by decide +kernel
theorem dX8_restart_132 : decode cX8_restart 132 = .ok (.dup, 1) := by decide +kernel
theorem dX8_restart_133 : decode cX8_restart 133 = .ok (.getfield 108, 3) := by decide +kernel
theorem dX8_restart_136 : decode cX8_restart 136 = .ok (.iconst 1, 1) := by decide +kernel
theorem dX8_restart_137 : decode cX8_restart 137 = .ok (.iadd, 1) := by decide +kernel
theorem dX8_restart_138 : decode cX8_restart 138 = .ok (.putfield 108, 3) := by decide +kernel
theorem dX8_restart_141 : decode cX8_restart 141 = .ok (.iinc 1 1, 3) := by decide +kernel
theorem dX8_restart_144 : decode cX8_restart 144 = .ok (.goto (-124), 3) := by decide +kernel
theorem dX8_restart_147 : decode cX8_restart 147 = .ok (.aload_n 0, 1) := by decide +kernel
theorem dX8_restart_148 : decode cX8_restart 148 = .ok (.dup, 1) := by decide +kernel
theorem dX8_restart_149 : decode cX8_restart 149 = .ok (.getfield 185, 3) := by decide +kernel
theorem dX8_restart_152 : decode cX8_restart 152 = .ok (.iconst 1, 1) := by decide +kernel
theorem dX8_restart_153 : decode cX8_restart 153 = .ok (.iadd, 1) := by decide +kernel
theorem dX8_restart_154 : decode cX8_restart 154 = .ok (.putfield 185, 3) := by decide +kernel
theorem dX8_restart_157 : decode cX8_restart 157 = .ok (.aload_n 0, 1) := by decide +kernel
theorem dX8_restart_158 : decode cX8_restart 158 = .ok (.invokevirtual 149, 3) := by decide +kernel
theorem dX8_restart_161 : decode cX8_restart 161 = .ok (.aload_n 0, 1) := by decide +kernel
theorem dX8_restart_162 : decode cX8_restart 162 = .ok (.iconst 1, 1) := by decide +kernel
theorem dX8_restart_163 : decode cX8_restart 163 = .ok (.invokevirtual 115, 3) := by decide +kernel
theorem dX8_restart_166 : decode cX8_restart 166 = .ok (.ireturn, 1) := by decide +kernel
theorem dX8_told_0 : decode cX8_told 0 = .ok (.iload_n 1, 1) := by decide +kernel
theorem dX8_told_1 : decode cX8_told 1 = .ok (.tableswitch 125 0 12 #[67, 72, 77, 82, 82, 82, 90, 95, 95, 105, 110, 115, 120], 67) := by decide +kernel
theorem dX8_told_68 : decode cX8_told 68 = .ok (.aload_n 0, 1) := by decide +kernel
theorem dX8_told_69 : decode cX8_told 69 = .ok (.getfield 125, 3) := by decide +kernel
theorem dX8_told_72 : decode cX8_told 72 = .ok (.ireturn, 1) := by decide +kernel
theorem dX8_told_73 : decode cX8_told 73 = .ok (.aload_n 0, 1) := by decide +kernel
theorem dX8_told_74 : decode cX8_told 74 = .ok (.getfield 98, 3) := by decide +kernel
theorem dX8_told_77 : decode cX8_told 77 = .ok (.ireturn, 1) := by decide +kernel
theorem dX8_told_78 : decode cX8_told 78 = .ok (.aload_n 0, 1) := by decide +kernel
theorem dX8_told_79 : decode cX8_told 79 = .ok (.getfield 146, 3) := by decide +kernel
theorem dX8_told_82 : decode cX8_told 82 = .ok (.ireturn, 1) := by decide +kernel
theorem dX8_told_83 : decode cX8_told 83 = .ok (.aload_n 0, 1) := by decide +kernel
theorem dX8_told_84 : decode cX8_told 84 = .ok (.iload_n 1, 1) := by decide +kernel
theorem dX8_told_85 : decode cX8_told 85 = .ok (.iconst 3, 1) := by decide +kernel
theorem dX8_told_86 : decode cX8_told 86 = .ok (.isub, 1) := by decide +kernel
theorem dX8_told_87 : decode cX8_told 87 = .ok (.invokevirtual 115, 3) := by decide +kernel
theorem dX8_told_90 : decode cX8_told 90 = .ok (.ireturn, 1) := by decide +kernel
theorem dX8_told_91 : decode cX8_told 91 = .ok (.aload_n 0, 1) := by decide +kernel
theorem dX8_told_92 : decode cX8_told 92 = .ok (.getfield 108, 3) := by decide +kernel
theorem dX8_told_95 : decode cX8_told 95 = .ok (.ireturn, 1) := by decide +kernel
theorem dX8_told_96 : decode cX8_told 96 = .ok (.aload_n 0, 1) := by decide +kernel
theorem dX8_told_97 : decode cX8_told 97 = .ok (.getfield 57, 3) := by decide +kernel
theorem dX8_told_100 : decode cX8_told 100 = .ok (.iload_n 1, 1) := by decide +kernel
theorem dX8_told_101 : decode cX8_told 101 = .ok (.bipush 7, 2) := by decide +kernel
theorem dX8_told_103 : decode cX8_told 103 = .ok (.isub, 1) := by decide +kernel
theorem dX8_told_104 : decode cX8_told 104 = .ok (.iaload, 1) := by decide +kernel
theorem dX8_told_105 : decode cX8_told 105 = .ok (.ireturn, 1) := by decide +kernel
theorem dX8_told_106 : decode cX8_told 106 = .ok (.aload_n 0, 1) := by decide +kernel
theorem dX8_told_107 : decode cX8_told 107 = .ok (.getfield 101, 3) := by decide +kernel
theorem dX8_told_110 : decode cX8_told 110 = .ok (.ireturn, 1) := by decide +kernel
theorem dX8_told_111 : decode cX8_told 111 = .ok (.aload_n 0, 1) := by decide +kernel
theorem dX8_told_112 : decode cX8_told 112 = .ok (.getfield 135, 3) := by decide +kernel
theorem dX8_told_115 : decode cX8_told 115 = .ok (.ireturn, 1) := by decide +kernel
theorem dX8_told_116 : decode cX8_told 116 = .ok (.aload_n 0, 1) := by decide +kernel
theorem dX8_told_117 : decode cX8_told 117 = .ok (.getfield 132, 3) := by decide +kernel
theorem dX8_told_120 : decode cX8_told 120 = .ok (.ireturn, 1) := by decide +kernel
theorem dX8_told_121 : decode cX8_told 121 = .ok (.aload_n 0, 1) := by decide +kernel
theorem dX8_told_122 : decode cX8_told 122 = .ok (.getfield 185, 3) := by decide +kernel
theorem dX8_told_125 : decode cX8_told 125 = .ok (.ireturn, 1) := by decide +kernel
theorem dX8_told_126 : decode cX8_told 126 = .ok (.iconst (-1), 1) := by decide +kernel
theorem dX8_told_127 : decode cX8_told 127 = .ok (.ireturn, 1) := by decide +kernel
