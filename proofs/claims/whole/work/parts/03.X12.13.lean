theorem dX12_init_0 : decode cX12_init 0 = .ok (.aload_n 0, 1) := by decide +kernel
theorem dX12_init_1 : decode cX12_init 1 = .ok (.invokespecial 1, 3) := by decide +kernel
theorem dX12_init_4 : decode cX12_init 4 = .ok (.aload_n 0, 1) := by decide +kernel
theorem dX12_init_5 : decode cX12_init 5 = .ok (.bipush 9, 2) := by decide +kernel
theorem dX12_init_7 : decode cX12_init 7 = .ok (.newarray .int, 2) := by decide +kernel
theorem dX12_init_9 : decode cX12_init 9 = .ok (.putfield 7, 3) := by decide +kernel
theorem dX12_init_12 : decode cX12_init 12 = .ok (.aload_n 0, 1) := by decide +kernel
theorem dX12_init_13 : decode cX12_init 13 = .ok (.sipush 1152, 3) := by decide +kernel
theorem dX12_init_16 : decode cX12_init 16 = .ok (.newarray .int, 2) := by decide +kernel
theorem dX12_init_18 : decode cX12_init 18 = .ok (.putfield 13, 3) := by decide +kernel
theorem dX12_init_21 : decode cX12_init 21 = .ok (.aload_n 0, 1) := by decide +kernel
theorem dX12_init_22 : decode cX12_init 22 = .ok (.sipush 384, 3) := by decide +kernel
theorem dX12_init_25 : decode cX12_init 25 = .ok (.newarray .long, 2) := by decide +kernel
theorem dX12_init_27 : decode cX12_init 27 = .ok (.putfield 16, 3) := by decide +kernel
theorem dX12_init_30 : decode cX12_init 30 = .ok (.aload_n 0, 1) := by decide +kernel
theorem dX12_init_31 : decode cX12_init 31 = .ok (.sipush 128, 3) := by decide +kernel
theorem dX12_init_34 : decode cX12_init 34 = .ok (.newarray .int, 2) := by decide +kernel
theorem dX12_init_36 : decode cX12_init 36 = .ok (.putfield 20, 3) := by decide +kernel
theorem dX12_init_39 : decode cX12_init 39 = .ok (.aload_n 0, 1) := by decide +kernel
theorem dX12_init_40 : decode cX12_init 40 = .ok (.iconst 3, 1) := by decide +kernel
theorem dX12_init_41 : decode cX12_init 41 = .ok (.newarray .int, 2) := by decide +kernel
theorem dX12_init_43 : decode cX12_init 43 = .ok (.putfield 23, 3) := by decide +kernel
theorem dX12_init_46 : decode cX12_init 46 = .ok (.aload_n 0, 1) := by decide +kernel
theorem dX12_init_47 : decode cX12_init 47 = .ok (.bipush 9, 2) := by decide +kernel
theorem dX12_init_49 : decode cX12_init 49 = .ok (.newarray .long, 2) := by decide +kernel
theorem dX12_init_51 : decode cX12_init 51 = .ok (.putfield 26, 3) := by decide +kernel
theorem dX12_init_54 : decode cX12_init 54 = .ok (.aload_n 0, 1) := by decide +kernel
theorem dX12_init_55 : decode cX12_init 55 = .ok (.iconst 1, 1) := by decide +kernel
theorem dX12_init_56 : decode cX12_init 56 = .ok (.putfield 29, 3) := by decide +kernel
theorem dX12_init_59 : decode cX12_init 59 = .ok (.aload_n 0, 1) := by decide +kernel
theorem dX12_init_60 : decode cX12_init 60 = .ok (.iconst 1, 1) := by decide +kernel
theorem dX12_init_61 : decode cX12_init 61 = .ok (.putfield 33, 3) := by decide +kernel
theorem dX12_init_64 : decode cX12_init 64 = .ok (.aload_n 0, 1) := by decide +kernel
theorem dX12_init_65 : decode cX12_init 65 = .ok (.bipush 12, 2) := by decide +kernel
theorem dX12_init_67 : decode cX12_init 67 = .ok (.newarray .int, 2) := by decide +kernel
theorem dX12_init_69 : decode cX12_init 69 = .ok (.putfield 36, 3) := by decide +kernel
theorem dX12_init_72 : decode cX12_init 72 = .ok (.aload_n 0, 1) := by decide +kernel
theorem dX12_init_73 : decode cX12_init 73 = .ok (.iconst 4, 1) := by decide +kernel
theorem dX12_init_74 : decode cX12_init 74 = .ok (.newarray .int, 2) := by decide +kernel
theorem dX12_init_76 : decode cX12_init 76 = .ok (.putfield 39, 3) := by decide +kernel
theorem dX12_init_79 : decode cX12_init 79 = .ok (.aload_n 0, 1) := by decide +kernel
theorem dX12_init_80 : decode cX12_init 80 = .ok (.bipush 16, 2) := by decide +kernel
theorem dX12_init_82 : decode cX12_init 82 = .ok (.newarray .int, 2) := by decide +kernel
theorem dX12_init_84 : decode cX12_init 84 = .ok (.putfield 42, 3) := by decide +kernel
theorem dX12_init_87 : decode cX12_init 87 = .ok (.aload_n 0, 1) := by decide +kernel
theorem dX12_init_88 : decode cX12_init 88 = .ok (.iconst 3, 1) := by decide +kernel
theorem dX12_init_89 : decode cX12_init 89 = .ok (.newarray .long, 2) := by decide +kernel
theorem dX12_init_91 : decode cX12_init 91 = .ok (.putfield 45, 3) := by decide +kernel
theorem dX12_init_94 : decode cX12_init 94 = .ok (.aload_n 0, 1) := by decide +kernel
theorem dX12_init_95 : decode cX12_init 95 = .ok (.bipush 9, 2) := by decide +kernel
theorem dX12_init_97 : decode cX12_init 97 = .ok (.newarray .int, 2) := by decide +kernel
theorem dX12_init_99 : decode cX12_init 99 = .ok (.putfield 48, 3) := by decide +kernel
theorem dX12_init_102 : decode cX12_init 102 = .ok (.aload_n 0, 1) := by decide +kernel
theorem dX12_init_103 : decode cX12_init 103 = .ok (.sipush 255, 3) := by decide +kernel
theorem dX12_init_106 : decode cX12_init 106 = .ok (.newarray .int, 2) := by decide +kernel
theorem dX12_init_108 : decode cX12_init 108 = .ok (.putfield 51, 3) := by decide +kernel
theorem dX12_init_111 : decode cX12_init 111 = .ok (.aload_n 0, 1) := by decide +kernel
theorem dX12_init_112 : decode cX12_init 112 = .ok (.sipush 255, 3) := by decide +kernel
theorem dX12_init_115 : decode cX12_init 115 = .ok (.newarray .int, 2) := by decide +kernel
theorem dX12_init_117 : decode cX12_init 117 = .ok (.putfield 54, 3) := by decide +kernel
theorem dX12_init_120 : decode cX12_init 120 = .ok (.aload_n 0, 1) := by decide +kernel
theorem dX12_init_121 : decode cX12_init 121 = .ok (.sipush 255, 3) := by decide +kernel
theorem dX12_init_124 : decode cX12_init 124 = .ok (.newarray .int, 2) := by decide +kernel
theorem dX12_init_126 : decode cX12_init 126 = .ok (.putfield 57, 3) := by decide +kernel
theorem dX12_init_129 : decode cX12_init 129 = .ok (.aload_n 0, 1) := by decide +kernel
theorem dX12_init_130 : decode cX12_init 130 = .ok (.sipush 255, 3) := by decide +kernel
theorem dX12_init_133 : decode cX12_init 133 = .ok (.newarray .int, 2) := by decide +kernel
theorem dX12_init_135 : decode cX12_init 135 = .ok (.putfield 60, 3) := by decide +kernel
theorem dX12_init_138 : decode cX12_init 138 = .ok (.aload_n 0, 1) := by decide +kernel
theorem dX12_init_139 : decode cX12_init 139 = .ok (.sipush 255, 3) := by decide +kernel
theorem dX12_init_142 : decode cX12_init 142 = .ok (.newarray .int, 2) := by decide +kernel
theorem dX12_init_144 : decode cX12_init 144 = .ok (.putfield 63, 3) := by decide +kernel
theorem dX12_init_147 : decode cX12_init 147 = .ok (.aload_n 0, 1) := by decide +kernel
theorem dX12_init_148 : decode cX12_init 148 = .ok (.sipush 255, 3) := by decide +kernel
theorem dX12_init_151 : decode cX12_init 151 = .ok (.newarray .int, 2) := by decide +kernel
theorem dX12_init_153 : decode cX12_init 153 = .ok (.putfield 66, 3) := by decide +kernel
theorem dX12_init_156 : decode cX12_init 156 = .ok (.aload_n 0, 1) := by decide +kernel
theorem dX12_init_157 : decode cX12_init 157 = .ok (.sipush 1530, 3) := by decide +kernel
theorem dX12_init_160 : decode cX12_init 160 = .ok (.newarray .int, 2) := by decide +kernel
theorem dX12_init_162 : decode cX12_init 162 = .ok (.putfield 69, 3) := by decide +kernel
theorem dX12_init_165 : decode cX12_init 165 = .ok (.aload_n 0, 1) := by decide +kernel
theorem dX12_init_166 : decode cX12_init 166 = .ok (.sipush 128, 3) := by decide +kernel
theorem dX12_init_169 : decode cX12_init 169 = .ok (.newarray .int, 2) := by decide +kernel
theorem dX12_init_171 : decode cX12_init 171 = .ok (.putfield 72, 3) := by decide +kernel
theorem dX12_init_174 : decode cX12_init 174 = .ok (.aload_n 0, 1) := by decide +kernel
theorem dX12_init_175 : decode cX12_init 175 = .ok (.bipush 6, 2) := by decide +kernel
theorem dX12_init_177 : decode cX12_init 177 = .ok (.newarray .int, 2) := by decide +kernel
theorem dX12_init_179 : decode cX12_init 179 = .ok (.putfield 75, 3) := by decide +kernel
theorem dX12_init_182 : decode cX12_init 182 = .ok (.aload_n 0, 1) := by decide +kernel
theorem dX12_init_183 : decode cX12_init 183 = .ok (.sipush 300, 3) := by decide +kernel
theorem dX12_init_186 : decode cX12_init 186 = .ok (.newarray .int, 2) := by decide +kernel
theorem dX12_init_188 : decode cX12_init 188 = .ok (.putfield 78, 3) := by decide +kernel
theorem dX12_init_191 : decode cX12_init 191 = .ok (.aload_n 0, 1) := by decide +kernel
theorem dX12_init_192 : decode cX12_init 192 = .ok (.iconst 3, 1) := by decide +kernel
theorem dX12_init_193 : decode cX12_init 193 = .ok (.newarray .long, 2) := by decide +kernel
theorem dX12_init_195 : decode cX12_init 195 = .ok (.putfield 81, 3) := by decide +kernel
theorem dX12_init_198 : decode cX12_init 198 = .ok (.aload_n 0, 1) := by decide +kernel
theorem dX12_init_199 : decode cX12_init 199 = .ok (.iconst 3, 1) := by decide +kernel
theorem dX12_init_200 : decode cX12_init 200 = .ok (.newarray .long, 2) := by decide +kernel
theorem dX12_init_202 : decode cX12_init 202 = .ok (.putfield 84, 3) := by decide +kernel
theorem dX12_init_205 : decode cX12_init 205 = .ok (.aload_n 0, 1) := by decide +kernel
theorem dX12_init_206 : decode cX12_init 206 = .ok (.iconst 3, 1) := by decide +kernel
theorem dX12_init_207 : decode cX12_init 207 = .ok (.newarray .long, 2) := by decide +kernel
theorem dX12_init_209 : decode cX12_init 209 = .ok (.putfield 87, 3) := by decide +kernel
theorem dX12_init_212 : decode cX12_init 212 = .ok (.aload_n 0, 1) := by decide +kernel
theorem dX12_init_213 : decode cX12_init 213 = .ok (.iconst 3, 1) := by decide +kernel
theorem dX12_init_214 : decode cX12_init 214 = .ok (.newarray .long, 2) := by decide +kernel
theorem dX12_init_216 : decode cX12_init 216 = .ok (.putfield 90, 3) := by decide +kernel
theorem dX12_init_219 : decode cX12_init 219 = .ok (.aload_n 0, 1) := by decide +kernel
theorem dX12_init_220 : decode cX12_init 220 = .ok (.bipush 9, 2) := by decide +kernel
theorem dX12_init_222 : decode cX12_init 222 = .ok (.newarray .long, 2) := by decide +kernel
theorem dX12_init_224 : decode cX12_init 224 = .ok (.putfield 93, 3) := by decide +kernel
theorem dX12_init_227 : decode cX12_init 227 = .ok (.aload_n 0, 1) := by decide +kernel
theorem dX12_init_228 : decode cX12_init 228 = .ok (.iconst 3, 1) := by decide +kernel
theorem dX12_init_229 : decode cX12_init 229 = .ok (.newarray .long, 2) := by decide +kernel
theorem dX12_init_231 : decode cX12_init 231 = .ok (.putfield 96, 3) := by decide +kernel
theorem dX12_init_234 : decode cX12_init 234 = .ok (.aload_n 0, 1) := by decide +kernel
theorem dX12_init_235 : decode cX12_init 235 = .ok (.bipush 11, 2) := by decide +kernel
theorem dX12_init_237 : decode cX12_init 237 = .ok (.newarray .long, 2) := by decide +kernel
theorem dX12_init_239 : decode cX12_init 239 = .ok (.putfield 99, 3) := by decide +kernel
theorem dX12_init_242 : decode cX12_init 242 = .ok (.aload_n 0, 1) := by decide +kernel
theorem dX12_init_243 : decode cX12_init 243 = .ok (.iconst 4, 1) := by decide +kernel
theorem dX12_init_244 : decode cX12_init 244 = .ok (.newarray .long, 2) := by decide +kernel
theorem dX12_init_246 : decode cX12_init 246 = .ok (.putfield 102, 3) := by decide +kernel
theorem dX12_init_249 : decode cX12_init 249 = .ok (.aload_n 0, 1) := by decide +kernel
theorem dX12_init_250 : decode cX12_init 250 = .ok (.sipush 128, 3) := by decide +kernel
theorem dX12_init_253 : decode cX12_init 253 = .ok (.newarray .int, 2) := by decide +kernel
theorem dX12_init_255 : decode cX12_init 255 = .ok (.putfield 105, 3) := by decide +kernel
theorem dX12_init_258 : decode cX12_init 258 = .ok (.aload_n 0, 1) := by decide +kernel
theorem dX12_init_259 : decode cX12_init 259 = .ok (.sipush 128, 3) := by decide +kernel
theorem dX12_init_262 : decode cX12_init 262 = .ok (.newarray .long, 2) := by decide +kernel
theorem dX12_init_264 : decode cX12_init 264 = .ok (.putfield 108, 3) := by decide +kernel
theorem dX12_init_267 : decode cX12_init 267 = .ok (.aload_n 0, 1) := by decide +kernel
theorem dX12_init_268 : decode cX12_init 268 = .ok (.sipush 128, 3) := by decide +kernel
theorem dX12_init_271 : decode cX12_init 271 = .ok (.newarray .long, 2) := by decide +kernel
theorem dX12_init_273 : decode cX12_init 273 = .ok (.putfield 111, 3) := by decide +kernel
theorem dX12_init_276 : decode cX12_init 276 = .ok (.aload_n 0, 1) := by decide +kernel
theorem dX12_init_277 : decode cX12_init 277 = .ok (.sipush 255, 3) := by decide +kernel
theorem dX12_init_280 : decode cX12_init 280 = .ok (.newarray .boolean, 2) := by decide +kernel
theorem dX12_init_282 : decode cX12_init 282 = .ok (.putfield 114, 3) := by decide +kernel
theorem dX12_init_285 : decode cX12_init 285 = .ok (.aload_n 0, 1) := by decide +kernel
theorem dX12_init_286 : decode cX12_init 286 = .ok (.bipush 8, 2) := by decide +kernel
theorem dX12_init_288 : decode cX12_init 288 = .ok (.newarray .long, 2) := by decide +kernel
theorem dX12_init_290 : decode cX12_init 290 = .ok (.putfield 118, 3) := by decide +kernel
theorem dX12_init_293 : decode cX12_init 293 = .ok (.aload_n 0, 1) := by decide +kernel
theorem dX12_init_294 : decode cX12_init 294 = .ok (.bipush 8, 2) := by decide +kernel
theorem dX12_init_296 : decode cX12_init 296 = .ok (.newarray .long, 2) := by decide +kernel
theorem dX12_init_298 : decode cX12_init 298 = .ok (.putfield 121, 3) := by decide +kernel
theorem dX12_init_301 : decode cX12_init 301 = .ok (.aload_n 0, 1) := by decide +kernel
theorem dX12_init_302 : decode cX12_init 302 = .ok (.bipush 8, 2) := by decide +kernel
theorem dX12_init_304 : decode cX12_init 304 = .ok (.newarray .long, 2) := by decide +kernel
theorem dX12_init_306 : decode cX12_init 306 = .ok (.putfield 124, 3) := by decide +kernel
theorem dX12_init_309 : decode cX12_init 309 = .ok (.aload_n 0, 1) := by decide +kernel
theorem dX12_init_310 : decode cX12_init 310 = .ok (.bipush 8, 2) := by decide +kernel
theorem dX12_init_312 : decode cX12_init 312 = .ok (.newarray .long, 2) := by decide +kernel
theorem dX12_init_314 : decode cX12_init 314 = .ok (.putfield 127, 3) := by decide +kernel
theorem dX12_init_317 : decode cX12_init 317 = .ok (.aload_n 0, 1) := by decide +kernel
theorem dX12_init_318 : decode cX12_init 318 = .ok (.sipush 128, 3) := by decide +kernel
theorem dX12_init_321 : decode cX12_init 321 = .ok (.newarray .boolean, 2) := by decide +kernel
theorem dX12_init_323 : decode cX12_init 323 = .ok (.putfield 130, 3) := by decide +kernel
theorem dX12_init_326 : decode cX12_init 326 = .ok (.aload_n 0, 1) := by decide +kernel
theorem dX12_init_327 : decode cX12_init 327 = .ok (.iconst 3, 1) := by decide +kernel
theorem dX12_init_328 : decode cX12_init 328 = .ok (.newarray .long, 2) := by decide +kernel
theorem dX12_init_330 : decode cX12_init 330 = .ok (.putfield 133, 3) := by decide +kernel
theorem dX12_init_333 : decode cX12_init 333 = .ok (.iconst 0, 1) := by decide +kernel
theorem dX12_init_334 : decode cX12_init 334 = .ok (.istore_n 1, 1) := by decide +kernel
theorem dX12_init_335 : decode cX12_init 335 = .ok (.iload_n 1, 1) := by decide +kernel
theorem dX12_init_336 : decode cX12_init 336 = .ok (.bipush 16, 2) := by decide +kernel
theorem dX12_init_338 : decode cX12_init 338 = .ok (.if_icmp .ge 19, 3) := by decide +kernel
theorem dX12_init_341 : decode cX12_init 341 = .ok (.aload_n 0, 1) := by decide +kernel
theorem dX12_init_342 : decode cX12_init 342 = .ok (.getfield 42, 3) := by decide +kernel
theorem dX12_init_345 : decode cX12_init 345 = .ok (.iload_n 1, 1) := by decide +kernel
theorem dX12_init_346 : decode cX12_init 346 = .ok (.bipush 17, 2) := by decide +kernel
theorem dX12_init_348 : decode cX12_init 348 = .ok (.iload_n 1, 1) := by decide +kernel
theorem dX12_init_349 : decode cX12_init 349 = .ok (.imul, 1) := by decide +kernel
theorem dX12_init_350 : decode cX12_init 350 = .ok (.iastore, 1) := by decide +kernel
theorem dX12_init_351 : decode cX12_init 351 = .ok (.iinc 1 1, 3) := by decide +kernel
theorem dX12_init_354 : decode cX12_init 354 = .ok (.goto (-19), 3) := by decide +kernel
theorem dX12_init_357 : decode cX12_init 357 = .ok (.return_, 1) := by decide +kernel
theorem dX12_in_0 : decode cX12_in 0 = .ok (.lload_n 0, 1) := by decide +kernel
theorem dX12_in_1 : decode cX12_in 1 = .ok (.lload_n 2, 1) := by decide +kernel
theorem dX12_in_2 : decode cX12_in 2 = .ok (.lcmp, 1) := by decide +kernel
theorem dX12_in_3 : decode cX12_in 3 = .ok (.ifCond .lt 14, 3) := by decide +kernel
theorem dX12_in_6 : decode cX12_in 6 = .ok (.lload_n 0, 1) := by decide +kernel
theorem dX12_in_7 : decode cX12_in 7 = .ok (.lload 4, 2) := by decide +kernel
theorem dX12_in_9 : decode cX12_in 9 = .ok (.lcmp, 1) := by decide +kernel
theorem dX12_in_10 : decode cX12_in 10 = .ok (.ifCond .gt 7, 3) := by decide +kernel
theorem dX12_in_13 : decode cX12_in 13 = .ok (.iconst 1, 1) := by decide +kernel
theorem dX12_in_14 : decode cX12_in 14 = .ok (.goto 4, 3) := by decide +kernel
theorem dX12_in_17 : decode cX12_in 17 = .ok (.iconst 0, 1) := by decide +kernel
theorem dX12_in_18 : decode cX12_in 18 = .ok (.ireturn, 1) := by decide +kernel
theorem dX12_isPlace_0 : decode cX12_isPlace 0 = .ok (.iload_n 0, 1) := by decide +kernel
theorem dX12_isPlace_1 : decode cX12_isPlace 1 = .ok (.i2l, 1) := by decide +kernel
theorem dX12_isPlace_2 : decode cX12_isPlace 2 = .ok (.ldc2_w 136, 3) := by decide +kernel
theorem dX12_isPlace_5 : decode cX12_isPlace 5 = .ok (.ldc2_w 138, 3) := by decide +kernel
theorem dX12_isPlace_8 : decode cX12_isPlace 8 = .ok (.invokestatic 140, 3) := by decide +kernel
theorem dX12_isPlace_11 : decode cX12_isPlace 11 = .ok (.ireturn, 1) := by decide +kernel
theorem dX12_point_0 : decode cX12_point 0 = .ok (.iload_n 1, 1) := by decide +kernel
theorem dX12_point_1 : decode cX12_point 1 = .ok (.invokestatic 144, 3) := by decide +kernel
theorem dX12_point_4 : decode cX12_point 4 = .ok (.ifCond .eq 25, 3) := by decide +kernel
theorem dX12_point_7 : decode cX12_point 7 = .ok (.iload_n 2, 1) := by decide +kernel
theorem dX12_point_8 : decode cX12_point 8 = .ok (.invokestatic 144, 3) := by decide +kernel
theorem dX12_point_11 : decode cX12_point 11 = .ok (.ifCond .eq 18, 3) := by decide +kernel
theorem dX12_point_14 : decode cX12_point 14 = .ok (.iload_n 3, 1) := by decide +kernel
theorem dX12_point_15 : decode cX12_point 15 = .ok (.invokestatic 144, 3) := by decide +kernel
theorem dX12_point_18 : decode cX12_point 18 = .ok (.ifCond .eq 11, 3) := by decide +kernel
theorem dX12_point_21 : decode cX12_point 21 = .ok (.aload_n 0, 1) := by decide +kernel
theorem dX12_point_22 : decode cX12_point 22 = .ok (.getfield 148, 3) := by decide +kernel
theorem dX12_point_25 : decode cX12_point 25 = .ok (.iconst 3, 1) := by decide +kernel
theorem dX12_point_26 : decode cX12_point 26 = .ok (.if_icmp .ne 5, 3) := by decide +kernel
theorem dX12_point_29 : decode cX12_point 29 = .ok (.iconst (-1), 1) := by decide +kernel
theorem dX12_point_30 : decode cX12_point 30 = .ok (.ireturn, 1) := by decide +kernel
theorem dX12_point_31 : decode cX12_point 31 = .ok (.aload_n 0, 1) := by decide +kernel
theorem dX12_point_32 : decode cX12_point 32 = .ok (.getfield 7, 3) := by decide +kernel
theorem dX12_point_35 : decode cX12_point 35 = .ok (.iconst 3, 1) := by decide +kernel
theorem dX12_point_36 : decode cX12_point 36 = .ok (.aload_n 0, 1) := by decide +kernel
theorem dX12_point_37 : decode cX12_point 37 = .ok (.getfield 148, 3) := by decide +kernel
theorem dX12_point_40 : decode cX12_point 40 = .ok (.imul, 1) := by decide +kernel
theorem dX12_point_41 : decode cX12_point 41 = .ok (.iload_n 1, 1) := by decide +kernel
theorem dX12_point_42 : decode cX12_point 42 = .ok (.iastore, 1) := by decide +kernel
theorem dX12_point_43 : decode cX12_point 43 = .ok (.aload_n 0, 1) := by decide +kernel
theorem dX12_point_44 : decode cX12_point 44 = .ok (.getfield 7, 3) := by decide +kernel
theorem dX12_point_47 : decode cX12_point 47 = .ok (.iconst 3, 1) := by decide +kernel
theorem dX12_point_48 : decode cX12_point 48 = .ok (.aload_n 0, 1) := by decide +kernel
theorem dX12_point_49 : decode cX12_point 49 = .ok (.getfield 148, 3) := by decide +kernel
theorem dX12_point_52 : decode cX12_point 52 = .ok (.imul, 1) := by decide +kernel
theorem dX12_point_53 : decode cX12_point 53 = .ok (.iconst 1, 1) := by decide +kernel
theorem dX12_point_54 : decode cX12_point 54 = .ok (.iadd, 1) := by decide +kernel
theorem dX12_point_55 : decode cX12_point 55 = .ok (.iload_n 2, 1) := by decide +kernel
theorem dX12_point_56 : decode cX12_point 56 = .ok (.iastore, 1) := by decide +kernel
theorem dX12_point_57 : decode cX12_point 57 = .ok (.aload_n 0, 1) := by decide +kernel
theorem dX12_point_58 : decode cX12_point 58 = .ok (.getfield 7, 3) := by decide +kernel
theorem dX12_point_61 : decode cX12_point 61 = .ok (.iconst 3, 1) := by decide +kernel
theorem dX12_point_62 : decode cX12_point 62 = .ok (.aload_n 0, 1) := by decide +kernel
theorem dX12_point_63 : decode cX12_point 63 = .ok (.getfield 148, 3) := by decide +kernel
theorem dX12_point_66 : decode cX12_point 66 = .ok (.imul, 1) := by decide +kernel
theorem dX12_point_67 : decode cX12_point 67 = .ok (.iconst 2, 1) := by decide +kernel
theorem dX12_point_68 : decode cX12_point 68 = .ok (.iadd, 1) := by decide +kernel
theorem dX12_point_69 : decode cX12_point 69 = .ok (.iload_n 3, 1) := by decide +kernel
theorem dX12_point_70 : decode cX12_point 70 = .ok (.iastore, 1) := by decide +kernel
theorem dX12_point_71 : decode cX12_point 71 = .ok (.aload_n 0, 1) := by decide +kernel
theorem dX12_point_72 : decode cX12_point 72 = .ok (.dup, 1) := by decide +kernel
theorem dX12_point_73 : decode cX12_point 73 = .ok (.getfield 148, 3) := by decide +kernel
theorem dX12_point_76 : decode cX12_point 76 = .ok (.iconst 1, 1) := by decide +kernel
theorem dX12_point_77 : decode cX12_point 77 = .ok (.iadd, 1) := by decide +kernel
theorem dX12_point_78 : decode cX12_point 78 = .ok (.putfield 148, 3) := by decide +kernel
theorem dX12_point_81 : decode cX12_point 81 = .ok (.aload_n 0, 1) := by decide +kernel
theorem dX12_point_82 : decode cX12_point 82 = .ok (.getfield 148, 3) := by decide +kernel
theorem dX12_point_85 : decode cX12_point 85 = .ok (.ireturn, 1) := by decide +kernel
theorem dX12_drop_0 : decode cX12_drop 0 = .ok (.aload_n 0, 1) := by decide +kernel
theorem dX12_drop_1 : decode cX12_drop 1 = .ok (.getfield 148, 3) := by decide +kernel
theorem dX12_drop_4 : decode cX12_drop 4 = .ok (.istore_n 1, 1) := by decide +kernel
theorem dX12_drop_5 : decode cX12_drop 5 = .ok (.aload_n 0, 1) := by decide +kernel
theorem dX12_drop_6 : decode cX12_drop 6 = .ok (.iconst 0, 1) := by decide +kernel
theorem dX12_drop_7 : decode cX12_drop 7 = .ok (.putfield 148, 3) := by decide +kernel
theorem dX12_drop_10 : decode cX12_drop 10 = .ok (.iload_n 1, 1) := by decide +kernel
theorem dX12_drop_11 : decode cX12_drop 11 = .ok (.ireturn, 1) := by decide +kernel
theorem dX12_crossOf_0 : decode cX12_crossOf 0 = .ok (.aload_n 1, 1) := by decide +kernel
theorem dX12_crossOf_1 : decode cX12_crossOf 1 = .ok (.iload_n 2, 1) := by decide +kernel
theorem dX12_crossOf_2 : decode cX12_crossOf 2 = .ok (.iconst 3, 1) := by decide +kernel
theorem dX12_crossOf_3 : decode cX12_crossOf 3 = .ok (.iadd, 1) := by decide +kernel
theorem dX12_crossOf_4 : decode cX12_crossOf 4 = .ok (.iaload, 1) := by decide +kernel
theorem dX12_crossOf_5 : decode cX12_crossOf 5 = .ok (.aload_n 1, 1) := by decide +kernel
theorem dX12_crossOf_6 : decode cX12_crossOf 6 = .ok (.iload_n 2, 1) := by decide +kernel
theorem dX12_crossOf_7 : decode cX12_crossOf 7 = .ok (.iaload, 1) := by decide +kernel
theorem dX12_crossOf_8 : decode cX12_crossOf 8 = .ok (.isub, 1) := by decide +kernel
theorem dX12_crossOf_9 : decode cX12_crossOf 9 = .ok (.i2l, 1) := by decide +kernel
theorem dX12_crossOf_10 : decode cX12_crossOf 10 = .ok (.lstore_n 3, 1) := by decide +kernel
theorem dX12_crossOf_11 : decode cX12_crossOf 11 = .ok (.aload_n 1, 1) := by decide +kernel
theorem dX12_crossOf_12 : decode cX12_crossOf 12 = .ok (.iload_n 2, 1) := by decide +kernel
theorem dX12_crossOf_13 : decode cX12_crossOf 13 = .ok (.iconst 4, 1) := by decide +kernel
theorem dX12_crossOf_14 : decode cX12_crossOf 14 = .ok (.iadd, 1) := by decide +kernel
theorem dX12_crossOf_15 : decode cX12_crossOf 15 = .ok (.iaload, 1) := by decide +kernel
theorem dX12_crossOf_16 : decode cX12_crossOf 16 = .ok (.aload_n 1, 1) := by decide +kernel
theorem dX12_crossOf_17 : decode cX12_crossOf 17 = .ok (.iload_n 2, 1) := by decide +kernel
theorem dX12_crossOf_18 : decode cX12_crossOf 18 = .ok (.iconst 1, 1) := by decide +kernel
theorem dX12_crossOf_19 : decode cX12_crossOf 19 = .ok (.iadd, 1) := by decide +kernel
theorem dX12_crossOf_20 : decode cX12_crossOf 20 = .ok (.iaload, 1) := by decide +kernel
theorem dX12_crossOf_21 : decode cX12_crossOf 21 = .ok (.isub, 1) := by decide +kernel
theorem dX12_crossOf_22 : decode cX12_crossOf 22 = .ok (.i2l, 1) := by decide +kernel
theorem dX12_crossOf_23 : decode cX12_crossOf 23 = .ok (.lstore 5, 2) := by decide +kernel
theorem dX12_crossOf_25 : decode cX12_crossOf 25 = .ok (.aload_n 1, 1) := by decide +kernel
theorem dX12_crossOf_26 : decode cX12_crossOf 26 = .ok (.iload_n 2, 1) := by decide +kernel
theorem dX12_crossOf_27 : decode cX12_crossOf 27 = .ok (.iconst 5, 1) := by decide +kernel
theorem dX12_crossOf_28 : decode cX12_crossOf 28 = .ok (.iadd, 1) := by decide +kernel
theorem dX12_crossOf_29 : decode cX12_crossOf 29 = .ok (.iaload, 1) := by decide +kernel
theorem dX12_crossOf_30 : decode cX12_crossOf 30 = .ok (.aload_n 1, 1) := by decide +kernel
theorem dX12_crossOf_31 : decode cX12_crossOf 31 = .ok (.iload_n 2, 1) := by decide +kernel
theorem dX12_crossOf_32 : decode cX12_crossOf 32 = .ok (.iconst 2, 1) := by decide +kernel
theorem dX12_crossOf_33 : decode cX12_crossOf 33 = .ok (.iadd, 1) := by decide +kernel
theorem dX12_crossOf_34 : decode cX12_crossOf 34 = .ok (.iaload, 1) := by decide +kernel
theorem dX12_crossOf_35 : decode cX12_crossOf 35 = .ok (.isub, 1) := by decide +kernel
theorem dX12_crossOf_36 : decode cX12_crossOf 36 = .ok (.i2l, 1) := by decide +kernel
theorem dX12_crossOf_37 : decode cX12_crossOf 37 = .ok (.lstore 7, 2) := by decide +kernel
theorem dX12_crossOf_39 : decode cX12_crossOf 39 = .ok (.aload_n 1, 1) := by decide +kernel
theorem dX12_crossOf_40 : decode cX12_crossOf 40 = .ok (.iload_n 2, 1) := by decide +kernel
theorem dX12_crossOf_41 : decode cX12_crossOf 41 = .ok (.bipush 6, 2) := by decide +kernel
theorem dX12_crossOf_43 : decode cX12_crossOf 43 = .ok (.iadd, 1) := by decide +kernel
theorem dX12_crossOf_44 : decode cX12_crossOf 44 = .ok (.iaload, 1) := by decide +kernel
theorem dX12_crossOf_45 : decode cX12_crossOf 45 = .ok (.aload_n 1, 1) := by decide +kernel
theorem dX12_crossOf_46 : decode cX12_crossOf 46 = .ok (.iload_n 2, 1) := by decide +kernel
theorem dX12_crossOf_47 : decode cX12_crossOf 47 = .ok (.iaload, 1) := by decide +kernel
theorem dX12_crossOf_48 : decode cX12_crossOf 48 = .ok (.isub, 1) := by decide +kernel
theorem dX12_crossOf_49 : decode cX12_crossOf 49 = .ok (.i2l, 1) := by decide +kernel
theorem dX12_crossOf_50 : decode cX12_crossOf 50 = .ok (.lstore 9, 2) := by decide +kernel
theorem dX12_crossOf_52 : decode cX12_crossOf 52 = .ok (.aload_n 1, 1) := by decide +kernel
theorem dX12_crossOf_53 : decode cX12_crossOf 53 = .ok (.iload_n 2, 1) := by decide +kernel
theorem dX12_crossOf_54 : decode cX12_crossOf 54 = .ok (.bipush 7, 2) := by decide +kernel
theorem dX12_crossOf_56 : decode cX12_crossOf 56 = .ok (.iadd, 1) := by decide +kernel
theorem dX12_crossOf_57 : decode cX12_crossOf 57 = .ok (.iaload, 1) := by decide +kernel
theorem dX12_crossOf_58 : decode cX12_crossOf 58 = .ok (.aload_n 1, 1) := by decide +kernel
theorem dX12_crossOf_59 : decode cX12_crossOf 59 = .ok (.iload_n 2, 1) := by decide +kernel
theorem dX12_crossOf_60 : decode cX12_crossOf 60 = .ok (.iconst 1, 1) := by decide +kernel
theorem dX12_crossOf_61 : decode cX12_crossOf 61 = .ok (.iadd, 1) := by decide +kernel
theorem dX12_crossOf_62 : decode cX12_crossOf 62 = .ok (.iaload, 1) := by decide +kernel
theorem dX12_crossOf_63 : decode cX12_crossOf 63 = .ok (.isub, 1) := by decide +kernel
theorem dX12_crossOf_64 : decode cX12_crossOf 64 = .ok (.i2l, 1) := by decide +kernel
theorem dX12_crossOf_65 : decode cX12_crossOf 65 = .ok (.lstore 11, 2) := by decide +kernel
theorem dX12_crossOf_67 : decode cX12_crossOf 67 = .ok (.aload_n 1, 1) := by decide +kernel
theorem dX12_crossOf_68 : decode cX12_crossOf 68 = .ok (.iload_n 2, 1) := by decide +kernel
theorem dX12_crossOf_69 : decode cX12_crossOf 69 = .ok (.bipush 8, 2) := by decide +kernel
theorem dX12_crossOf_71 : decode cX12_crossOf 71 = .ok (.iadd, 1) := by decide +kernel
theorem dX12_crossOf_72 : decode cX12_crossOf 72 = .ok (.iaload, 1) := by decide +kernel
theorem dX12_crossOf_73 : decode cX12_crossOf 73 = .ok (.aload_n 1, 1) := by decide +kernel
theorem dX12_crossOf_74 : decode cX12_crossOf 74 = .ok (.iload_n 2, 1) := by decide +kernel
theorem dX12_crossOf_75 : decode cX12_crossOf 75 = .ok (.iconst 2, 1) := by decide +kernel
theorem dX12_crossOf_76 : decode cX12_crossOf 76 = .ok (.iadd, 1) := by decide +kernel
theorem dX12_crossOf_77 : decode cX12_crossOf 77 = .ok (.iaload, 1) := by decide +kernel
theorem dX12_crossOf_78 : decode cX12_crossOf 78 = .ok (.isub, 1) := by decide +kernel
theorem dX12_crossOf_79 : decode cX12_crossOf 79 = .ok (.i2l, 1) := by decide +kernel
theorem dX12_crossOf_80 : decode cX12_crossOf 80 = .ok (.lstore 13, 2) := by decide +kernel
theorem dX12_crossOf_82 : decode cX12_crossOf 82 = .ok (.aload_n 0, 1) := by decide +kernel
theorem dX12_crossOf_83 : decode cX12_crossOf 83 = .ok (.getfield 45, 3) := by decide +kernel
theorem dX12_crossOf_86 : decode cX12_crossOf 86 = .ok (.iconst 0, 1) := by decide +kernel
theorem dX12_crossOf_87 : decode cX12_crossOf 87 = .ok (.lload 5, 2) := by decide +kernel
theorem dX12_crossOf_89 : decode cX12_crossOf 89 = .ok (.lload 13, 2) := by decide +kernel
theorem dX12_crossOf_91 : decode cX12_crossOf 91 = .ok (.lmul, 1) := by decide +kernel
theorem dX12_crossOf_92 : decode cX12_crossOf 92 = .ok (.lload 7, 2) := by decide +kernel
theorem dX12_crossOf_94 : decode cX12_crossOf 94 = .ok (.lload 11, 2) := by decide +kernel
theorem dX12_crossOf_96 : decode cX12_crossOf 96 = .ok (.lmul, 1) := by decide +kernel
theorem dX12_crossOf_97 : decode cX12_crossOf 97 = .ok (.lsub, 1) := by decide +kernel
theorem dX12_crossOf_98 : decode cX12_crossOf 98 = .ok (.lastore, 1) := by decide +kernel
theorem dX12_crossOf_99 : decode cX12_crossOf 99 = .ok (.aload_n 0, 1) := by decide +kernel
theorem dX12_crossOf_100 : decode cX12_crossOf 100 = .ok (.getfield 45, 3) := by decide +kernel
theorem dX12_crossOf_103 : decode cX12_crossOf 103 = .ok (.iconst 1, 1) := by decide +kernel
theorem dX12_crossOf_104 : decode cX12_crossOf 104 = .ok (.lload 7, 2) := by decide +kernel
theorem dX12_crossOf_106 : decode cX12_crossOf 106 = .ok (.lload 9, 2) := by decide +kernel
theorem dX12_crossOf_108 : decode cX12_crossOf 108 = .ok (.lmul, 1) := by decide +kernel
theorem dX12_crossOf_109 : decode cX12_crossOf 109 = .ok (.lload_n 3, 1) := by decide +kernel
theorem dX12_crossOf_110 : decode cX12_crossOf 110 = .ok (.lload 13, 2) := by decide +kernel
theorem dX12_crossOf_112 : decode cX12_crossOf 112 = .ok (.lmul, 1) := by decide +kernel
theorem dX12_crossOf_113 : decode cX12_crossOf 113 = .ok (.lsub, 1) := by decide +kernel
theorem dX12_crossOf_114 : decode cX12_crossOf 114 = .ok (.lastore, 1) := by decide +kernel
theorem dX12_crossOf_115 : decode cX12_crossOf 115 = .ok (.aload_n 0, 1) := by decide +kernel
theorem dX12_crossOf_116 : decode cX12_crossOf 116 = .ok (.getfield 45, 3) := by decide +kernel
theorem dX12_crossOf_119 : decode cX12_crossOf 119 = .ok (.iconst 2, 1) := by decide +kernel
theorem dX12_crossOf_120 : decode cX12_crossOf 120 = .ok (.lload_n 3, 1) := by decide +kernel
theorem dX12_crossOf_121 : decode cX12_crossOf 121 = .ok (.lload 11, 2) := by decide +kernel
theorem dX12_crossOf_123 : decode cX12_crossOf 123 = .ok (.lmul, 1) := by decide +kernel
theorem dX12_crossOf_124 : decode cX12_crossOf 124 = .ok (.lload 5, 2) := by decide +kernel
theorem dX12_crossOf_126 : decode cX12_crossOf 126 = .ok (.lload 9, 2) := by decide +kernel
theorem dX12_crossOf_128 : decode cX12_crossOf 128 = .ok (.lmul, 1) := by decide +kernel
theorem dX12_crossOf_129 : decode cX12_crossOf 129 = .ok (.lsub, 1) := by decide +kernel
theorem dX12_crossOf_130 : decode cX12_crossOf 130 = .ok (.lastore, 1) := by decide +kernel
theorem dX12_crossOf_131 : decode cX12_crossOf 131 = .ok (.aload_n 0, 1) := by decide +kernel
theorem dX12_crossOf_132 : decode cX12_crossOf 132 = .ok (.getfield 45, 3) := by decide +kernel
theorem dX12_crossOf_135 : decode cX12_crossOf 135 = .ok (.iconst 0, 1) := by decide +kernel
theorem dX12_crossOf_136 : decode cX12_crossOf 136 = .ok (.laload, 1) := by decide +kernel
theorem dX12_crossOf_137 : decode cX12_crossOf 137 = .ok (.lconst 0, 1) := by decide +kernel
theorem dX12_crossOf_138 : decode cX12_crossOf 138 = .ok (.lcmp, 1) := by decide +kernel
theorem dX12_crossOf_139 : decode cX12_crossOf 139 = .ok (.ifCond .ne 25, 3) := by decide +kernel
theorem dX12_crossOf_142 : decode cX12_crossOf 142 = .ok (.aload_n 0, 1) := by decide +kernel
theorem dX12_crossOf_143 : decode cX12_crossOf 143 = .ok (.getfield 45, 3) := by decide +kernel
theorem dX12_crossOf_146 : decode cX12_crossOf 146 = .ok (.iconst 1, 1) := by decide +kernel
theorem dX12_crossOf_147 : decode cX12_crossOf 147 = .ok (.laload, 1) := by decide +kernel
theorem dX12_crossOf_148 : decode cX12_crossOf 148 = .ok (.lconst 0, 1) := by decide +kernel
theorem dX12_crossOf_149 : decode cX12_crossOf 149 = .ok (.lcmp, 1) := by decide +kernel
theorem dX12_crossOf_150 : decode cX12_crossOf 150 = .ok (.ifCond .ne 14, 3) := by decide +kernel
theorem dX12_crossOf_153 : decode cX12_crossOf 153 = .ok (.aload_n 0, 1) := by decide +kernel
theorem dX12_crossOf_154 : decode cX12_crossOf 154 = .ok (.getfield 45, 3) := by decide +kernel
theorem dX12_crossOf_157 : decode cX12_crossOf 157 = .ok (.iconst 2, 1) := by decide +kernel
theorem dX12_crossOf_158 : decode cX12_crossOf 158 = .ok (.laload, 1) := by decide +kernel
theorem dX12_crossOf_159 : decode cX12_crossOf 159 = .ok (.lconst 0, 1) := by decide +kernel
theorem dX12_crossOf_160 : decode cX12_crossOf 160 = .ok (.lcmp, 1) := by decide +kernel
theorem dX12_crossOf_161 : decode cX12_crossOf 161 = .ok (.ifCond .eq 7, 3) := by decide +kernel
theorem dX12_crossOf_164 : decode cX12_crossOf 164 = .ok (.iconst 1, 1) := by decide +kernel
theorem dX12_crossOf_165 : decode cX12_crossOf 165 = .ok (.goto 4, 3) := by decide +kernel
theorem dX12_crossOf_168 : decode cX12_crossOf 168 = .ok (.iconst 0, 1) := by decide +kernel
theorem dX12_crossOf_169 : decode cX12_crossOf 169 = .ok (.ireturn, 1) := by decide +kernel
theorem dX12_triangle_0 : decode cX12_triangle 0 = .ok (.aload_n 0, 1) := by decide +kernel
theorem dX12_triangle_1 : decode cX12_triangle 1 = .ok (.getfield 148, 3) := by decide +kernel
theorem dX12_triangle_4 : decode cX12_triangle 4 = .ok (.iconst 3, 1) := by decide +kernel
theorem dX12_triangle_5 : decode cX12_triangle 5 = .ok (.if_icmp .eq 5, 3) := by decide +kernel
theorem dX12_triangle_8 : decode cX12_triangle 8 = .ok (.iconst (-1), 1) := by decide +kernel
theorem dX12_triangle_9 : decode cX12_triangle 9 = .ok (.ireturn, 1) := by decide +kernel
theorem dX12_triangle_10 : decode cX12_triangle 10 = .ok (.aload_n 0, 1) := by decide +kernel
theorem dX12_triangle_11 : decode cX12_triangle 11 = .ok (.iconst 0, 1) := by decide +kernel
theorem dX12_triangle_12 : decode cX12_triangle 12 = .ok (.putfield 148, 3) := by decide +kernel
theorem dX12_triangle_15 : decode cX12_triangle 15 = .ok (.aload_n 0, 1) := by decide +kernel
theorem dX12_triangle_16 : decode cX12_triangle 16 = .ok (.getfield 151, 3) := by decide +kernel
theorem dX12_triangle_19 : decode cX12_triangle 19 = .ok (.sipush 128, 3) := by decide +kernel
theorem dX12_triangle_22 : decode cX12_triangle 22 = .ok (.if_icmp .eq 15, 3) := by decide +kernel
theorem dX12_triangle_25 : decode cX12_triangle 25 = .ok (.iload_n 1, 1) := by decide +kernel
theorem dX12_triangle_26 : decode cX12_triangle 26 = .ok (.i2l, 1) := by decide +kernel
theorem dX12_triangle_27 : decode cX12_triangle 27 = .ok (.lconst 0, 1) := by decide +kernel
theorem dX12_triangle_28 : decode cX12_triangle 28 = .ok (.ldc2_w 138, 3) := by decide +kernel
theorem dX12_triangle_31 : decode cX12_triangle 31 = .ok (.invokestatic 140, 3) := by decide +kernel
theorem dX12_triangle_34 : decode cX12_triangle 34 = .ok (.ifCond .ne 5, 3) := by decide +kernel
theorem dX12_triangle_37 : decode cX12_triangle 37 = .ok (.iconst (-1), 1) := by decide +kernel
theorem dX12_triangle_38 : decode cX12_triangle 38 = .ok (.ireturn, 1) := by decide +kernel
theorem dX12_triangle_39 : decode cX12_triangle 39 = .ok (.aload_n 0, 1) := by decide +kernel
theorem dX12_triangle_40 : decode cX12_triangle 40 = .ok (.aload_n 0, 1) := by decide +kernel
theorem dX12_triangle_41 : decode cX12_triangle 41 = .ok (.getfield 7, 3) := by decide +kernel
theorem dX12_triangle_44 : decode cX12_triangle 44 = .ok (.iconst 0, 1) := by decide +kernel
theorem dX12_triangle_45 : decode cX12_triangle 45 = .ok (.invokevirtual 154, 3) := by decide +kernel
theorem dX12_triangle_48 : decode cX12_triangle 48 = .ok (.ifCond .ne 6, 3) := by decide +kernel
theorem dX12_triangle_51 : decode cX12_triangle 51 = .ok (.bipush (-2), 2) := by decide +kernel
theorem dX12_triangle_53 : decode cX12_triangle 53 = .ok (.ireturn, 1) := by decide +kernel
theorem dX12_triangle_54 : decode cX12_triangle 54 = .ok (.iconst 0, 1) := by decide +kernel
theorem dX12_triangle_55 : decode cX12_triangle 55 = .ok (.istore_n 2, 1) := by decide +kernel
theorem dX12_triangle_56 : decode cX12_triangle 56 = .ok (.iload_n 2, 1) := by decide +kernel
theorem dX12_triangle_57 : decode cX12_triangle 57 = .ok (.bipush 9, 2) := by decide +kernel
theorem dX12_triangle_59 : decode cX12_triangle 59 = .ok (.if_icmp .ge 29, 3) := by decide +kernel
theorem dX12_triangle_62 : decode cX12_triangle 62 = .ok (.aload_n 0, 1) := by decide +kernel
theorem dX12_triangle_63 : decode cX12_triangle 63 = .ok (.getfield 13, 3) := by decide +kernel
theorem dX12_triangle_66 : decode cX12_triangle 66 = .ok (.bipush 9, 2) := by decide +kernel
theorem dX12_triangle_68 : decode cX12_triangle 68 = .ok (.aload_n 0, 1) := by decide +kernel
theorem dX12_triangle_69 : decode cX12_triangle 69 = .ok (.getfield 151, 3) := by decide +kernel
theorem dX12_triangle_72 : decode cX12_triangle 72 = .ok (.imul, 1) := by decide +kernel
theorem dX12_triangle_73 : decode cX12_triangle 73 = .ok (.iload_n 2, 1) := by decide +kernel
theorem dX12_triangle_74 : decode cX12_triangle 74 = .ok (.iadd, 1) := by decide +kernel
theorem dX12_triangle_75 : decode cX12_triangle 75 = .ok (.aload_n 0, 1) := by decide +kernel
theorem dX12_triangle_76 : decode cX12_triangle 76 = .ok (.getfield 7, 3) := by decide +kernel
theorem dX12_triangle_79 : decode cX12_triangle 79 = .ok (.iload_n 2, 1) := by decide +kernel
theorem dX12_triangle_80 : decode cX12_triangle 80 = .ok (.iaload, 1) := by decide +kernel
theorem dX12_triangle_81 : decode cX12_triangle 81 = .ok (.iastore, 1) := by decide +kernel
theorem dX12_triangle_82 : decode cX12_triangle 82 = .ok (.iinc 2 1, 3) := by decide +kernel
theorem dX12_triangle_85 : decode cX12_triangle 85 = .ok (.goto (-29), 3) := by decide +kernel
theorem dX12_triangle_88 : decode cX12_triangle 88 = .ok (.iconst 0, 1) := by decide +kernel
theorem dX12_triangle_89 : decode cX12_triangle 89 = .ok (.istore_n 2, 1) := by decide +kernel
theorem dX12_triangle_90 : decode cX12_triangle 90 = .ok (.iload_n 2, 1) := by decide +kernel
theorem dX12_triangle_91 : decode cX12_triangle 91 = .ok (.iconst 3, 1) := by decide +kernel
theorem dX12_triangle_92 : decode cX12_triangle 92 = .ok (.if_icmp .ge 28, 3) := by decide +kernel
theorem dX12_triangle_95 : decode cX12_triangle 95 = .ok (.aload_n 0, 1) := by decide +kernel
theorem dX12_triangle_96 : decode cX12_triangle 96 = .ok (.getfield 16, 3) := by decide +kernel
theorem dX12_triangle_99 : decode cX12_triangle 99 = .ok (.iconst 3, 1) := by decide +kernel
theorem dX12_triangle_100 : decode cX12_triangle 100 = .ok (.aload_n 0, 1) := by decide +kernel
theorem dX12_triangle_101 : decode cX12_triangle 101 = .ok (.getfield 151, 3) := by decide +kernel
theorem dX12_triangle_104 : decode cX12_triangle 104 = .ok (.imul, 1) := by decide +kernel
theorem dX12_triangle_105 : decode cX12_triangle 105 = .ok (.iload_n 2, 1) := by decide +kernel
theorem dX12_triangle_106 : decode cX12_triangle 106 = .ok (.iadd, 1) := by decide +kernel
theorem dX12_triangle_107 : decode cX12_triangle 107 = .ok (.aload_n 0, 1) := by decide +kernel
theorem dX12_triangle_108 : decode cX12_triangle 108 = .ok (.getfield 45, 3) := by decide +kernel
theorem dX12_triangle_111 : decode cX12_triangle 111 = .ok (.iload_n 2, 1) := by decide +kernel
theorem dX12_triangle_112 : decode cX12_triangle 112 = .ok (.laload, 1) := by decide +kernel
theorem dX12_triangle_113 : decode cX12_triangle 113 = .ok (.lastore, 1) := by decide +kernel
theorem dX12_triangle_114 : decode cX12_triangle 114 = .ok (.iinc 2 1, 3) := by decide +kernel
theorem dX12_triangle_117 : decode cX12_triangle 117 = .ok (.goto (-27), 3) := by decide +kernel
theorem dX12_triangle_120 : decode cX12_triangle 120 = .ok (.aload_n 0, 1) := by decide +kernel
theorem dX12_triangle_121 : decode cX12_triangle 121 = .ok (.getfield 20, 3) := by decide +kernel
theorem dX12_triangle_124 : decode cX12_triangle 124 = .ok (.aload_n 0, 1) := by decide +kernel
theorem dX12_triangle_125 : decode cX12_triangle 125 = .ok (.getfield 151, 3) := by decide +kernel
theorem dX12_triangle_128 : decode cX12_triangle 128 = .ok (.iload_n 1, 1) := by decide +kernel
theorem dX12_triangle_129 : decode cX12_triangle 129 = .ok (.iastore, 1) := by decide +kernel
theorem dX12_triangle_130 : decode cX12_triangle 130 = .ok (.aload_n 0, 1) := by decide +kernel
theorem dX12_triangle_131 : decode cX12_triangle 131 = .ok (.dup, 1) := by decide +kernel
theorem dX12_triangle_132 : decode cX12_triangle 132 = .ok (.getfield 151, 3) := by decide +kernel
theorem dX12_triangle_135 : decode cX12_triangle 135 = .ok (.iconst 1, 1) := by decide +kernel
theorem dX12_triangle_136 : decode cX12_triangle 136 = .ok (.iadd, 1) := by decide +kernel
theorem dX12_triangle_137 : decode cX12_triangle 137 = .ok (.putfield 151, 3) := by decide +kernel
theorem dX12_triangle_140 : decode cX12_triangle 140 = .ok (.aload_n 0, 1) := by decide +kernel
theorem dX12_triangle_141 : decode cX12_triangle 141 = .ok (.iconst 0, 1) := by decide +kernel
theorem dX12_triangle_142 : decode cX12_triangle 142 = .ok (.putfield 158, 3) := by decide +kernel
theorem dX12_triangle_145 : decode cX12_triangle 145 = .ok (.aload_n 0, 1) := by decide +kernel
theorem dX12_triangle_146 : decode cX12_triangle 146 = .ok (.getfield 151, 3) := by decide +kernel
theorem dX12_triangle_149 : decode cX12_triangle 149 = .ok (.iconst 1, 1) := by decide +kernel
theorem dX12_triangle_150 : decode cX12_triangle 150 = .ok (.isub, 1) := by decide +kernel
theorem dX12_triangle_151 : decode cX12_triangle 151 = .ok (.ireturn, 1) := by decide +kernel
theorem dX12_move_0 : decode cX12_move 0 = .ok (.iload_n 1, 1) := by decide +kernel
theorem dX12_move_1 : decode cX12_move 1 = .ok (.i2l, 1) := by decide +kernel
theorem dX12_move_2 : decode cX12_move 2 = .ok (.lconst 0, 1) := by decide +kernel
theorem dX12_move_3 : decode cX12_move 3 = .ok (.aload_n 0, 1) := by decide +kernel
theorem dX12_move_4 : decode cX12_move 4 = .ok (.getfield 151, 3) := by decide +kernel
theorem dX12_move_7 : decode cX12_move 7 = .ok (.iconst 1, 1) := by decide +kernel
theorem dX12_move_8 : decode cX12_move 8 = .ok (.isub, 1) := by decide +kernel
theorem dX12_move_9 : decode cX12_move 9 = .ok (.i2l, 1) := by decide +kernel
theorem dX12_move_10 : decode cX12_move 10 = .ok (.invokestatic 140, 3) := by decide +kernel
theorem dX12_move_13 : decode cX12_move 13 = .ok (.ifCond .eq 23, 3) := by decide +kernel
theorem dX12_move_16 : decode cX12_move 16 = .ok (.iload_n 2, 1) := by decide +kernel
theorem dX12_move_17 : decode cX12_move 17 = .ok (.i2l, 1) := by decide +kernel
theorem dX12_move_18 : decode cX12_move 18 = .ok (.lconst 0, 1) := by decide +kernel
theorem dX12_move_19 : decode cX12_move 19 = .ok (.ldc2_w 161, 3) := by decide +kernel
theorem dX12_move_22 : decode cX12_move 22 = .ok (.invokestatic 140, 3) := by decide +kernel
theorem dX12_move_25 : decode cX12_move 25 = .ok (.ifCond .eq 11, 3) := by decide +kernel
theorem dX12_move_28 : decode cX12_move 28 = .ok (.aload_n 0, 1) := by decide +kernel
theorem dX12_move_29 : decode cX12_move 29 = .ok (.getfield 148, 3) := by decide +kernel
theorem dX12_move_32 : decode cX12_move 32 = .ok (.iconst 1, 1) := by decide +kernel
theorem dX12_move_33 : decode cX12_move 33 = .ok (.if_icmp .eq 5, 3) := by decide +kernel
theorem dX12_move_36 : decode cX12_move 36 = .ok (.iconst (-1), 1) := by decide +kernel
theorem dX12_move_37 : decode cX12_move 37 = .ok (.ireturn, 1) := by decide +kernel
theorem dX12_move_38 : decode cX12_move 38 = .ok (.aload_n 0, 1) := by decide +kernel
theorem dX12_move_39 : decode cX12_move 39 = .ok (.iconst 0, 1) := by decide +kernel
theorem dX12_move_40 : decode cX12_move 40 = .ok (.putfield 148, 3) := by decide +kernel
theorem dX12_move_43 : decode cX12_move 43 = .ok (.iconst 0, 1) := by decide +kernel
theorem dX12_move_44 : decode cX12_move 44 = .ok (.istore_n 3, 1) := by decide +kernel
theorem dX12_move_45 : decode cX12_move 45 = .ok (.iload_n 3, 1) := by decide +kernel
theorem dX12_move_46 : decode cX12_move 46 = .ok (.bipush 9, 2) := by decide +kernel
theorem dX12_move_48 : decode cX12_move 48 = .ok (.if_icmp .ge 44, 3) := by decide +kernel
theorem dX12_move_51 : decode cX12_move 51 = .ok (.aload_n 0, 1) := by decide +kernel
theorem dX12_move_52 : decode cX12_move 52 = .ok (.getfield 48, 3) := by decide +kernel
theorem dX12_move_55 : decode cX12_move 55 = .ok (.iload_n 3, 1) := by decide +kernel
theorem dX12_move_56 : decode cX12_move 56 = .ok (.iload_n 3, 1) := by decide +kernel
theorem dX12_move_57 : decode cX12_move 57 = .ok (.iconst 3, 1) := by decide +kernel
theorem dX12_move_58 : decode cX12_move 58 = .ok (.idiv, 1) := by decide +kernel
theorem dX12_move_59 : decode cX12_move 59 = .ok (.iload_n 2, 1) := by decide +kernel
theorem dX12_move_60 : decode cX12_move 60 = .ok (.if_icmp .ne 14, 3) := by decide +kernel
theorem dX12_move_63 : decode cX12_move 63 = .ok (.aload_n 0, 1) := by decide +kernel
theorem dX12_move_64 : decode cX12_move 64 = .ok (.getfield 7, 3) := by decide +kernel
theorem dX12_move_67 : decode cX12_move 67 = .ok (.iload_n 3, 1) := by decide +kernel
theorem dX12_move_68 : decode cX12_move 68 = .ok (.iconst 3, 1) := by decide +kernel
theorem dX12_move_69 : decode cX12_move 69 = .ok (.irem, 1) := by decide +kernel
theorem dX12_move_70 : decode cX12_move 70 = .ok (.iaload, 1) := by decide +kernel
theorem dX12_move_71 : decode cX12_move 71 = .ok (.goto 14, 3) := by decide +kernel
theorem dX12_move_74 : decode cX12_move 74 = .ok (.aload_n 0, 1) := by decide +kernel
theorem dX12_move_75 : decode cX12_move 75 = .ok (.getfield 13, 3) := by decide +kernel
theorem dX12_move_78 : decode cX12_move 78 = .ok (.bipush 9, 2) := by decide +kernel
theorem dX12_move_80 : decode cX12_move 80 = .ok (.iload_n 1, 1) := by decide +kernel
theorem dX12_move_81 : decode cX12_move 81 = .ok (.imul, 1) := by decide +kernel
theorem dX12_move_82 : decode cX12_move 82 = .ok (.iload_n 3, 1) := by decide +kernel
theorem dX12_move_83 : decode cX12_move 83 = .ok (.iadd, 1) := by decide +kernel
theorem dX12_move_84 : decode cX12_move 84 = .ok (.iaload, 1) := by decide +kernel
theorem dX12_move_85 : decode cX12_move 85 = .ok (.iastore, 1) := by decide +kernel
theorem dX12_move_86 : decode cX12_move 86 = .ok (.iinc 3 1, 3) := by decide +kernel
theorem dX12_move_89 : decode cX12_move 89 = .ok (.goto (-44), 3) := by decide +kernel
theorem dX12_move_92 : decode cX12_move 92 = .ok (.aload_n 0, 1) := by decide +kernel
theorem dX12_move_93 : decode cX12_move 93 = .ok (.aload_n 0, 1) := by decide +kernel
theorem dX12_move_94 : decode cX12_move 94 = .ok (.getfield 48, 3) := by decide +kernel
theorem dX12_move_97 : decode cX12_move 97 = .ok (.iconst 0, 1) := by decide +kernel
theorem dX12_move_98 : decode cX12_move 98 = .ok (.invokevirtual 154, 3) := by decide +kernel
theorem dX12_move_101 : decode cX12_move 101 = .ok (.ifCond .ne 6, 3) := by decide +kernel
theorem dX12_move_104 : decode cX12_move 104 = .ok (.bipush (-2), 2) := by decide +kernel
theorem dX12_move_106 : decode cX12_move 106 = .ok (.ireturn, 1) := by decide +kernel
theorem dX12_move_107 : decode cX12_move 107 = .ok (.iconst 0, 1) := by decide +kernel
theorem dX12_move_108 : decode cX12_move 108 = .ok (.istore_n 3, 1) := by decide +kernel
theorem dX12_move_109 : decode cX12_move 109 = .ok (.iload_n 3, 1) := by decide +kernel
theorem dX12_move_110 : decode cX12_move 110 = .ok (.bipush 9, 2) := by decide +kernel
theorem dX12_move_112 : decode cX12_move 112 = .ok (.if_icmp .ge 26, 3) := by decide +kernel
theorem dX12_move_115 : decode cX12_move 115 = .ok (.aload_n 0, 1) := by decide +kernel
theorem dX12_move_116 : decode cX12_move 116 = .ok (.getfield 13, 3) := by decide +kernel
theorem dX12_move_119 : decode cX12_move 119 = .ok (.bipush 9, 2) := by decide +kernel
theorem dX12_move_121 : decode cX12_move 121 = .ok (.iload_n 1, 1) := by decide +kernel
theorem dX12_move_122 : decode cX12_move 122 = .ok (.imul, 1) := by decide +kernel
theorem dX12_move_123 : decode cX12_move 123 = .ok (.iload_n 3, 1) := by decide +kernel
theorem dX12_move_124 : decode cX12_move 124 = .ok (.iadd, 1) := by decide +kernel
theorem dX12_move_125 : decode cX12_move 125 = .ok (.aload_n 0, 1) := by decide +kernel
theorem dX12_move_126 : decode cX12_move 126 = .ok (.getfield 48, 3) := by decide +kernel
theorem dX12_move_129 : decode cX12_move 129 = .ok (.iload_n 3, 1) := by decide +kernel
theorem dX12_move_130 : decode cX12_move 130 = .ok (.iaload, 1) := by decide +kernel
theorem dX12_move_131 : decode cX12_move 131 = .ok (.iastore, 1) := by decide +kernel
theorem dX12_move_132 : decode cX12_move 132 = .ok (.iinc 3 1, 3) := by decide +kernel
theorem dX12_move_135 : decode cX12_move 135 = .ok (.goto (-26), 3) := by decide +kernel
theorem dX12_move_138 : decode cX12_move 138 = .ok (.iconst 0, 1) := by decide +kernel
theorem dX12_move_139 : decode cX12_move 139 = .ok (.istore_n 3, 1) := by decide +kernel
theorem dX12_move_140 : decode cX12_move 140 = .ok (.iload_n 3, 1) := by decide +kernel
theorem dX12_move_141 : decode cX12_move 141 = .ok (.iconst 3, 1) := by decide +kernel
theorem dX12_move_142 : decode cX12_move 142 = .ok (.if_icmp .ge 25, 3) := by decide +kernel
theorem dX12_move_145 : decode cX12_move 145 = .ok (.aload_n 0, 1) := by decide +kernel
theorem dX12_move_146 : decode cX12_move 146 = .ok (.getfield 16, 3) := by decide +kernel
theorem dX12_move_149 : decode cX12_move 149 = .ok (.iconst 3, 1) := by decide +kernel
theorem dX12_move_150 : decode cX12_move 150 = .ok (.iload_n 1, 1) := by decide +kernel
theorem dX12_move_151 : decode cX12_move 151 = .ok (.imul, 1) := by decide +kernel
theorem dX12_move_152 : decode cX12_move 152 = .ok (.iload_n 3, 1) := by decide +kernel
theorem dX12_move_153 : decode cX12_move 153 = .ok (.iadd, 1) := by decide +kernel
theorem dX12_move_154 : decode cX12_move 154 = .ok (.aload_n 0, 1) := by decide +kernel
theorem dX12_move_155 : decode cX12_move 155 = .ok (.getfield 45, 3) := by decide +kernel
theorem dX12_move_158 : decode cX12_move 158 = .ok (.iload_n 3, 1) := by decide +kernel
theorem dX12_move_159 : decode cX12_move 159 = .ok (.laload, 1) := by decide +kernel
theorem dX12_move_160 : decode cX12_move 160 = .ok (.lastore, 1) := by decide +kernel
theorem dX12_move_161 : decode cX12_move 161 = .ok (.iinc 3 1, 3) := by decide +kernel
theorem dX12_move_164 : decode cX12_move 164 = .ok (.goto (-24), 3) := by decide +kernel
theorem dX12_move_167 : decode cX12_move 167 = .ok (.iconst 0, 1) := by decide +kernel
theorem dX12_move_168 : decode cX12_move 168 = .ok (.ireturn, 1) := by decide +kernel
theorem dX12_eye_0 : decode cX12_eye 0 = .ok (.aload_n 0, 1) := by decide +kernel
theorem dX12_eye_1 : decode cX12_eye 1 = .ok (.getfield 148, 3) := by decide +kernel
theorem dX12_eye_4 : decode cX12_eye 4 = .ok (.iconst 1, 1) := by decide +kernel
theorem dX12_eye_5 : decode cX12_eye 5 = .ok (.if_icmp .eq 5, 3) := by decide +kernel
theorem dX12_eye_8 : decode cX12_eye 8 = .ok (.iconst (-1), 1) := by decide +kernel
theorem dX12_eye_9 : decode cX12_eye 9 = .ok (.ireturn, 1) := by decide +kernel
theorem dX12_eye_10 : decode cX12_eye 10 = .ok (.aload_n 0, 1) := by decide +kernel
theorem dX12_eye_11 : decode cX12_eye 11 = .ok (.iconst 0, 1) := by decide +kernel
theorem dX12_eye_12 : decode cX12_eye 12 = .ok (.putfield 148, 3) := by decide +kernel
theorem dX12_eye_15 : decode cX12_eye 15 = .ok (.iconst 0, 1) := by decide +kernel
theorem dX12_eye_16 : decode cX12_eye 16 = .ok (.istore_n 1, 1) := by decide +kernel
theorem dX12_eye_17 : decode cX12_eye 17 = .ok (.iload_n 1, 1) := by decide +kernel
theorem dX12_eye_18 : decode cX12_eye 18 = .ok (.iconst 3, 1) := by decide +kernel
theorem dX12_eye_19 : decode cX12_eye 19 = .ok (.if_icmp .ge 21, 3) := by decide +kernel
theorem dX12_eye_22 : decode cX12_eye 22 = .ok (.aload_n 0, 1) := by decide +kernel
theorem dX12_eye_23 : decode cX12_eye 23 = .ok (.getfield 23, 3) := by decide +kernel
theorem dX12_eye_26 : decode cX12_eye 26 = .ok (.iload_n 1, 1) := by decide +kernel
theorem dX12_eye_27 : decode cX12_eye 27 = .ok (.aload_n 0, 1) := by decide +kernel
theorem dX12_eye_28 : decode cX12_eye 28 = .ok (.getfield 7, 3) := by decide +kernel
theorem dX12_eye_31 : decode cX12_eye 31 = .ok (.iload_n 1, 1) := by decide +kernel
theorem dX12_eye_32 : decode cX12_eye 32 = .ok (.iaload, 1) := by decide +kernel
theorem dX12_eye_33 : decode cX12_eye 33 = .ok (.iastore, 1) := by decide +kernel
theorem dX12_eye_34 : decode cX12_eye 34 = .ok (.iinc 1 1, 3) := by decide +kernel
theorem dX12_eye_37 : decode cX12_eye 37 = .ok (.goto (-20), 3) := by decide +kernel
theorem dX12_eye_40 : decode cX12_eye 40 = .ok (.iconst 0, 1) := by decide +kernel
theorem dX12_eye_41 : decode cX12_eye 41 = .ok (.ireturn, 1) := by decide +kernel
theorem dX12_areRays_0 : decode cX12_areRays 0 = .ok (.iconst 1, 1) := by decide +kernel
theorem dX12_areRays_1 : decode cX12_areRays 1 = .ok (.istore_n 3, 1) := by decide +kernel
theorem dX12_areRays_2 : decode cX12_areRays 2 = .ok (.iconst 0, 1) := by decide +kernel
theorem dX12_areRays_3 : decode cX12_areRays 3 = .ok (.istore 4, 2) := by decide +kernel
theorem dX12_areRays_5 : decode cX12_areRays 5 = .ok (.iload 4, 2) := by decide +kernel
theorem dX12_areRays_7 : decode cX12_areRays 7 = .ok (.iconst 3, 1) := by decide +kernel
theorem dX12_areRays_8 : decode cX12_areRays 8 = .ok (.if_icmp .ge 119, 3) := by decide +kernel
theorem dX12_areRays_11 : decode cX12_areRays 11 = .ok (.iconst 0, 1) := by decide +kernel
theorem dX12_areRays_12 : decode cX12_areRays 12 = .ok (.istore 5, 2) := by decide +kernel
theorem dX12_areRays_14 : decode cX12_areRays 14 = .ok (.iload 5, 2) := by decide +kernel
theorem dX12_areRays_16 : decode cX12_areRays 16 = .ok (.iconst 4, 1) := by decide +kernel
theorem dX12_areRays_17 : decode cX12_areRays 17 = .ok (.if_icmp .ge 104, 3) := by decide +kernel
theorem dX12_areRays_20 : decode cX12_areRays 20 = .ok (.iload 5, 2) := by decide +kernel
theorem dX12_areRays_22 : decode cX12_areRays 22 = .ok (.iconst 2, 1) := by decide +kernel
theorem dX12_areRays_23 : decode cX12_areRays 23 = .ok (.irem, 1) := by decide +kernel
theorem dX12_areRays_24 : decode cX12_areRays 24 = .ok (.ifCond .ne 10, 3) := by decide +kernel
theorem dX12_areRays_27 : decode cX12_areRays 27 = .ok (.lconst 1, 1) := by decide +kernel
theorem dX12_areRays_28 : decode cX12_areRays 28 = .ok (.iload_n 1, 1) := by decide +kernel
theorem dX12_areRays_29 : decode cX12_areRays 29 = .ok (.i2l, 1) := by decide +kernel
theorem dX12_areRays_30 : decode cX12_areRays 30 = .ok (.lsub, 1) := by decide +kernel
theorem dX12_areRays_31 : decode cX12_areRays 31 = .ok (.goto 7, 3) := by decide +kernel
theorem dX12_areRays_34 : decode cX12_areRays 34 = .ok (.iload_n 1, 1) := by decide +kernel
theorem dX12_areRays_35 : decode cX12_areRays 35 = .ok (.i2l, 1) := by decide +kernel
theorem dX12_areRays_36 : decode cX12_areRays 36 = .ok (.lconst 1, 1) := by decide +kernel
theorem dX12_areRays_37 : decode cX12_areRays 37 = .ok (.lsub, 1) := by decide +kernel
theorem dX12_areRays_38 : decode cX12_areRays 38 = .ok (.lstore 6, 2) := by decide +kernel
theorem dX12_areRays_40 : decode cX12_areRays 40 = .ok (.iload 5, 2) := by decide +kernel
theorem dX12_areRays_42 : decode cX12_areRays 42 = .ok (.iconst 2, 1) := by decide +kernel
theorem dX12_areRays_43 : decode cX12_areRays 43 = .ok (.if_icmp .ge 10, 3) := by decide +kernel
theorem dX12_areRays_46 : decode cX12_areRays 46 = .ok (.lconst 1, 1) := by decide +kernel
theorem dX12_areRays_47 : decode cX12_areRays 47 = .ok (.iload_n 2, 1) := by decide +kernel
theorem dX12_areRays_48 : decode cX12_areRays 48 = .ok (.i2l, 1) := by decide +kernel
theorem dX12_areRays_49 : decode cX12_areRays 49 = .ok (.lsub, 1) := by decide +kernel
theorem dX12_areRays_50 : decode cX12_areRays 50 = .ok (.goto 7, 3) := by decide +kernel
theorem dX12_areRays_53 : decode cX12_areRays 53 = .ok (.iload_n 2, 1) := by decide +kernel
theorem dX12_areRays_54 : decode cX12_areRays 54 = .ok (.i2l, 1) := by decide +kernel
theorem dX12_areRays_55 : decode cX12_areRays 55 = .ok (.lconst 1, 1) := by decide +kernel
theorem dX12_areRays_56 : decode cX12_areRays 56 = .ok (.lsub, 1) := by decide +kernel
theorem dX12_areRays_57 : decode cX12_areRays 57 = .ok (.lstore 8, 2) := by decide +kernel
theorem dX12_areRays_59 : decode cX12_areRays 59 = .ok (.iload_n 3, 1) := by decide +kernel
theorem dX12_areRays_60 : decode cX12_areRays 60 = .ok (.ifCond .eq 53, 3) := by decide +kernel
theorem dX12_areRays_63 : decode cX12_areRays 63 = .ok (.aload_n 0, 1) := by decide +kernel
theorem dX12_areRays_64 : decode cX12_areRays 64 = .ok (.getfield 26, 3) := by decide +kernel
theorem dX12_areRays_67 : decode cX12_areRays 67 = .ok (.iload 4, 2) := by decide +kernel
theorem dX12_areRays_69 : decode cX12_areRays 69 = .ok (.laload, 1) := by decide +kernel
theorem dX12_areRays_70 : decode cX12_areRays 70 = .ok (.lload 6, 2) := by decide +kernel
theorem dX12_areRays_72 : decode cX12_areRays 72 = .ok (.aload_n 0, 1) := by decide +kernel
theorem dX12_areRays_73 : decode cX12_areRays 73 = .ok (.getfield 26, 3) := by decide +kernel
theorem dX12_areRays_76 : decode cX12_areRays 76 = .ok (.iconst 3, 1) := by decide +kernel
theorem dX12_areRays_77 : decode cX12_areRays 77 = .ok (.iload 4, 2) := by decide +kernel
theorem dX12_areRays_79 : decode cX12_areRays 79 = .ok (.iadd, 1) := by decide +kernel
theorem dX12_areRays_80 : decode cX12_areRays 80 = .ok (.laload, 1) := by decide +kernel
theorem dX12_areRays_81 : decode cX12_areRays 81 = .ok (.lmul, 1) := by decide +kernel
theorem dX12_areRays_82 : decode cX12_areRays 82 = .ok (.ladd, 1) := by decide +kernel
theorem dX12_areRays_83 : decode cX12_areRays 83 = .ok (.lload 8, 2) := by decide +kernel
theorem dX12_areRays_85 : decode cX12_areRays 85 = .ok (.aload_n 0, 1) := by decide +kernel
theorem dX12_areRays_86 : decode cX12_areRays 86 = .ok (.getfield 26, 3) := by decide +kernel
theorem dX12_areRays_89 : decode cX12_areRays 89 = .ok (.bipush 6, 2) := by decide +kernel
theorem dX12_areRays_91 : decode cX12_areRays 91 = .ok (.iload 4, 2) := by decide +kernel
theorem dX12_areRays_93 : decode cX12_areRays 93 = .ok (.iadd, 1) := by decide +kernel
theorem dX12_areRays_94 : decode cX12_areRays 94 = .ok (.laload, 1) := by decide +kernel
theorem dX12_areRays_95 : decode cX12_areRays 95 = .ok (.lmul, 1) := by decide +kernel
theorem dX12_areRays_96 : decode cX12_areRays 96 = .ok (.ladd, 1) := by decide +kernel
theorem dX12_areRays_97 : decode cX12_areRays 97 = .ok (.ldc2_w 163, 3) := by decide +kernel
theorem dX12_areRays_100 : decode cX12_areRays 100 = .ok (.ldc2_w 165, 3) := by decide +kernel
theorem dX12_areRays_103 : decode cX12_areRays 103 = .ok (.invokestatic 140, 3) := by decide +kernel
theorem dX12_areRays_106 : decode cX12_areRays 106 = .ok (.ifCond .eq 7, 3) := by decide +kernel
theorem dX12_areRays_109 : decode cX12_areRays 109 = .ok (.iconst 1, 1) := by decide +kernel
theorem dX12_areRays_110 : decode cX12_areRays 110 = .ok (.goto 4, 3) := by decide +kernel
theorem dX12_areRays_113 : decode cX12_areRays 113 = .ok (.iconst 0, 1) := by decide +kernel
theorem dX12_areRays_114 : decode cX12_areRays 114 = .ok (.istore_n 3, 1) := by decide +kernel
theorem dX12_areRays_115 : decode cX12_areRays 115 = .ok (.iinc 5 1, 3) := by decide +kernel
theorem dX12_areRays_118 : decode cX12_areRays 118 = .ok (.goto (-104), 3) := by decide +kernel
theorem dX12_areRays_121 : decode cX12_areRays 121 = .ok (.iinc 4 1, 3) := by decide +kernel
theorem dX12_areRays_124 : decode cX12_areRays 124 = .ok (.goto (-119), 3) := by decide +kernel
theorem dX12_areRays_127 : decode cX12_areRays 127 = .ok (.iload_n 3, 1) := by decide +kernel
theorem dX12_areRays_128 : decode cX12_areRays 128 = .ok (.ireturn, 1) := by decide +kernel
theorem dX12_axis_0 : decode cX12_axis 0 = .ok (.iload_n 1, 1) := by decide +kernel
theorem dX12_axis_1 : decode cX12_axis 1 = .ok (.i2l, 1) := by decide +kernel
theorem dX12_axis_2 : decode cX12_axis 2 = .ok (.lconst 0, 1) := by decide +kernel
theorem dX12_axis_3 : decode cX12_axis 3 = .ok (.ldc2_w 161, 3) := by decide +kernel
theorem dX12_axis_6 : decode cX12_axis 6 = .ok (.invokestatic 140, 3) := by decide +kernel
theorem dX12_axis_9 : decode cX12_axis 9 = .ok (.ifCond .ne 5, 3) := by decide +kernel
theorem dX12_axis_12 : decode cX12_axis 12 = .ok (.iconst (-1), 1) := by decide +kernel
theorem dX12_axis_13 : decode cX12_axis 13 = .ok (.ireturn, 1) := by decide +kernel
theorem dX12_axis_14 : decode cX12_axis 14 = .ok (.aload_n 0, 1) := by decide +kernel
theorem dX12_axis_15 : decode cX12_axis 15 = .ok (.getfield 26, 3) := by decide +kernel
theorem dX12_axis_18 : decode cX12_axis 18 = .ok (.iconst 3, 1) := by decide +kernel
theorem dX12_axis_19 : decode cX12_axis 19 = .ok (.iload_n 1, 1) := by decide +kernel
theorem dX12_axis_20 : decode cX12_axis 20 = .ok (.imul, 1) := by decide +kernel
theorem dX12_axis_21 : decode cX12_axis 21 = .ok (.laload, 1) := by decide +kernel
theorem dX12_axis_22 : decode cX12_axis 22 = .ok (.lstore 5, 2) := by decide +kernel
theorem dX12_axis_24 : decode cX12_axis 24 = .ok (.aload_n 0, 1) := by decide +kernel
theorem dX12_axis_25 : decode cX12_axis 25 = .ok (.getfield 26, 3) := by decide +kernel
theorem dX12_axis_28 : decode cX12_axis 28 = .ok (.iconst 3, 1) := by decide +kernel
theorem dX12_axis_29 : decode cX12_axis 29 = .ok (.iload_n 1, 1) := by decide +kernel
theorem dX12_axis_30 : decode cX12_axis 30 = .ok (.imul, 1) := by decide +kernel
theorem dX12_axis_31 : decode cX12_axis 31 = .ok (.iconst 1, 1) := by decide +kernel
theorem dX12_axis_32 : decode cX12_axis 32 = .ok (.iadd, 1) := by decide +kernel
theorem dX12_axis_33 : decode cX12_axis 33 = .ok (.laload, 1) := by decide +kernel
theorem dX12_axis_34 : decode cX12_axis 34 = .ok (.lstore 7, 2) := by decide +kernel
theorem dX12_axis_36 : decode cX12_axis 36 = .ok (.aload_n 0, 1) := by decide +kernel
theorem dX12_axis_37 : decode cX12_axis 37 = .ok (.getfield 26, 3) := by decide +kernel
theorem dX12_axis_40 : decode cX12_axis 40 = .ok (.iconst 3, 1) := by decide +kernel
theorem dX12_axis_41 : decode cX12_axis 41 = .ok (.iload_n 1, 1) := by decide +kernel
theorem dX12_axis_42 : decode cX12_axis 42 = .ok (.imul, 1) := by decide +kernel
theorem dX12_axis_43 : decode cX12_axis 43 = .ok (.iconst 2, 1) := by decide +kernel
theorem dX12_axis_44 : decode cX12_axis 44 = .ok (.iadd, 1) := by decide +kernel
theorem dX12_axis_45 : decode cX12_axis 45 = .ok (.laload, 1) := by decide +kernel
theorem dX12_axis_46 : decode cX12_axis 46 = .ok (.lstore 9, 2) := by decide +kernel
theorem dX12_axis_48 : decode cX12_axis 48 = .ok (.aload_n 0, 1) := by decide +kernel
theorem dX12_axis_49 : decode cX12_axis 49 = .ok (.iload_n 1, 1) := by decide +kernel
theorem dX12_axis_50 : decode cX12_axis 50 = .ok (.iload_n 2, 1) := by decide +kernel
theorem dX12_axis_51 : decode cX12_axis 51 = .ok (.i2l, 1) := by decide +kernel
theorem dX12_axis_52 : decode cX12_axis 52 = .ok (.iload_n 3, 1) := by decide +kernel
theorem dX12_axis_53 : decode cX12_axis 53 = .ok (.i2l, 1) := by decide +kernel
theorem dX12_axis_54 : decode cX12_axis 54 = .ok (.iload 4, 2) := by decide +kernel
theorem dX12_axis_56 : decode cX12_axis 56 = .ok (.i2l, 1) := by decide +kernel
theorem dX12_axis_57 : decode cX12_axis 57 = .ok (.invokevirtual 167, 3) := by decide +kernel
theorem dX12_axis_60 : decode cX12_axis 60 = .ok (.aload_n 0, 1) := by decide +kernel
theorem dX12_axis_61 : decode cX12_axis 61 = .ok (.aload_n 0, 1) := by decide +kernel
theorem dX12_axis_62 : decode cX12_axis 62 = .ok (.getfield 29, 3) := by decide +kernel
theorem dX12_axis_65 : decode cX12_axis 65 = .ok (.aload_n 0, 1) := by decide +kernel
theorem dX12_axis_66 : decode cX12_axis 66 = .ok (.getfield 33, 3) := by decide +kernel
theorem dX12_axis_69 : decode cX12_axis 69 = .ok (.invokevirtual 171, 3) := by decide +kernel
theorem dX12_axis_72 : decode cX12_axis 72 = .ok (.ifCond .eq 5, 3) := by decide +kernel
theorem dX12_axis_75 : decode cX12_axis 75 = .ok (.iconst 0, 1) := by decide +kernel
theorem dX12_axis_76 : decode cX12_axis 76 = .ok (.ireturn, 1) := by decide +kernel
theorem dX12_axis_77 : decode cX12_axis 77 = .ok (.aload_n 0, 1) := by decide +kernel
theorem dX12_axis_78 : decode cX12_axis 78 = .ok (.iload_n 1, 1) := by decide +kernel
theorem dX12_axis_79 : decode cX12_axis 79 = .ok (.lload 5, 2) := by decide +kernel
theorem dX12_axis_81 : decode cX12_axis 81 = .ok (.lload 7, 2) := by decide +kernel
theorem dX12_axis_83 : decode cX12_axis 83 = .ok (.lload 9, 2) := by decide +kernel
theorem dX12_axis_85 : decode cX12_axis 85 = .ok (.invokevirtual 167, 3) := by decide +kernel
theorem dX12_axis_88 : decode cX12_axis 88 = .ok (.iconst (-1), 1) := by decide +kernel
theorem dX12_axis_89 : decode cX12_axis 89 = .ok (.ireturn, 1) := by decide +kernel
theorem dX12_setAxis_0 : decode cX12_setAxis 0 = .ok (.aload_n 0, 1) := by decide +kernel
theorem dX12_setAxis_1 : decode cX12_setAxis 1 = .ok (.getfield 26, 3) := by decide +kernel
theorem dX12_setAxis_4 : decode cX12_setAxis 4 = .ok (.iconst 3, 1) := by decide +kernel
theorem dX12_setAxis_5 : decode cX12_setAxis 5 = .ok (.iload_n 1, 1) := by decide +kernel
theorem dX12_setAxis_6 : decode cX12_setAxis 6 = .ok (.imul, 1) := by decide +kernel
theorem dX12_setAxis_7 : decode cX12_setAxis 7 = .ok (.lload_n 2, 1) := by decide +kernel
theorem dX12_setAxis_8 : decode cX12_setAxis 8 = .ok (.lastore, 1) := by decide +kernel
theorem dX12_setAxis_9 : decode cX12_setAxis 9 = .ok (.aload_n 0, 1) := by decide +kernel
theorem dX12_setAxis_10 : decode cX12_setAxis 10 = .ok (.getfield 26, 3) := by decide +kernel
theorem dX12_setAxis_13 : decode cX12_setAxis 13 = .ok (.iconst 3, 1) := by decide +kernel
theorem dX12_setAxis_14 : decode cX12_setAxis 14 = .ok (.iload_n 1, 1) := by decide +kernel
theorem dX12_setAxis_15 : decode cX12_setAxis 15 = .ok (.imul, 1) := by decide +kernel
theorem dX12_setAxis_16 : decode cX12_setAxis 16 = .ok (.iconst 1, 1) := by decide +kernel
theorem dX12_setAxis_17 : decode cX12_setAxis 17 = .ok (.iadd, 1) := by decide +kernel
theorem dX12_setAxis_18 : decode cX12_setAxis 18 = .ok (.lload 4, 2) := by decide +kernel
theorem dX12_setAxis_20 : decode cX12_setAxis 20 = .ok (.lastore, 1) := by decide +kernel
theorem dX12_setAxis_21 : decode cX12_setAxis 21 = .ok (.aload_n 0, 1) := by decide +kernel
theorem dX12_setAxis_22 : decode cX12_setAxis 22 = .ok (.getfield 26, 3) := by decide +kernel
theorem dX12_setAxis_25 : decode cX12_setAxis 25 = .ok (.iconst 3, 1) := by decide +kernel
theorem dX12_setAxis_26 : decode cX12_setAxis 26 = .ok (.iload_n 1, 1) := by decide +kernel
theorem dX12_setAxis_27 : decode cX12_setAxis 27 = .ok (.imul, 1) := by decide +kernel
theorem dX12_setAxis_28 : decode cX12_setAxis 28 = .ok (.iconst 2, 1) := by decide +kernel
theorem dX12_setAxis_29 : decode cX12_setAxis 29 = .ok (.iadd, 1) := by decide +kernel
theorem dX12_setAxis_30 : decode cX12_setAxis 30 = .ok (.lload 6, 2) := by decide +kernel
theorem dX12_setAxis_32 : decode cX12_setAxis 32 = .ok (.lastore, 1) := by decide +kernel
theorem dX12_setAxis_33 : decode cX12_setAxis 33 = .ok (.return_, 1) := by decide +kernel
theorem dX12_size_0 : decode cX12_size 0 = .ok (.iload_n 1, 1) := by decide +kernel
theorem dX12_size_1 : decode cX12_size 1 = .ok (.i2l, 1) := by decide +kernel
theorem dX12_size_2 : decode cX12_size 2 = .ok (.lconst 1, 1) := by decide +kernel
theorem dX12_size_3 : decode cX12_size 3 = .ok (.ldc2_w 175, 3) := by decide +kernel
theorem dX12_size_6 : decode cX12_size 6 = .ok (.invokestatic 140, 3) := by decide +kernel
theorem dX12_size_9 : decode cX12_size 9 = .ok (.ifCond .eq 24, 3) := by decide +kernel
theorem dX12_size_12 : decode cX12_size 12 = .ok (.iload_n 2, 1) := by decide +kernel
theorem dX12_size_13 : decode cX12_size 13 = .ok (.i2l, 1) := by decide +kernel
theorem dX12_size_14 : decode cX12_size 14 = .ok (.lconst 1, 1) := by decide +kernel
theorem dX12_size_15 : decode cX12_size 15 = .ok (.ldc2_w 175, 3) := by decide +kernel
theorem dX12_size_18 : decode cX12_size 18 = .ok (.invokestatic 140, 3) := by decide +kernel
theorem dX12_size_21 : decode cX12_size 21 = .ok (.ifCond .eq 12, 3) := by decide +kernel
theorem dX12_size_24 : decode cX12_size 24 = .ok (.aload_n 0, 1) := by decide +kernel
theorem dX12_size_25 : decode cX12_size 25 = .ok (.iload_n 1, 1) := by decide +kernel
theorem dX12_size_26 : decode cX12_size 26 = .ok (.iload_n 2, 1) := by decide +kernel
theorem dX12_size_27 : decode cX12_size 27 = .ok (.invokevirtual 171, 3) := by decide +kernel
theorem dX12_size_30 : decode cX12_size 30 = .ok (.ifCond .ne 5, 3) := by decide +kernel
theorem dX12_size_33 : decode cX12_size 33 = .ok (.iconst (-1), 1) := by decide +kernel
theorem dX12_size_34 : decode cX12_size 34 = .ok (.ireturn, 1) := by decide +kernel
theorem dX12_size_35 : decode cX12_size 35 = .ok (.aload_n 0, 1) := by decide +kernel
theorem dX12_size_36 : decode cX12_size 36 = .ok (.iload_n 1, 1) := by decide +kernel
theorem dX12_size_37 : decode cX12_size 37 = .ok (.putfield 29, 3) := by decide +kernel
theorem dX12_size_40 : decode cX12_size 40 = .ok (.aload_n 0, 1) := by decide +kernel
theorem dX12_size_41 : decode cX12_size 41 = .ok (.iload_n 2, 1) := by decide +kernel
theorem dX12_size_42 : decode cX12_size 42 = .ok (.putfield 33, 3) := by decide +kernel
theorem dX12_size_45 : decode cX12_size 45 = .ok (.iconst 0, 1) := by decide +kernel
theorem dX12_size_46 : decode cX12_size 46 = .ok (.ireturn, 1) := by decide +kernel
theorem dX12_light_0 : decode cX12_light 0 = .ok (.iload_n 1, 1) := by decide +kernel
theorem dX12_light_1 : decode cX12_light 1 = .ok (.i2l, 1) := by decide +kernel
theorem dX12_light_2 : decode cX12_light 2 = .ok (.lconst 0, 1) := by decide +kernel
theorem dX12_light_3 : decode cX12_light 3 = .ok (.ldc2_w 177, 3) := by decide +kernel
theorem dX12_light_6 : decode cX12_light 6 = .ok (.invokestatic 140, 3) := by decide +kernel
theorem dX12_light_9 : decode cX12_light 9 = .ok (.ifCond .eq 23, 3) := by decide +kernel
theorem dX12_light_12 : decode cX12_light 12 = .ok (.iload_n 2, 1) := by decide +kernel
theorem dX12_light_13 : decode cX12_light 13 = .ok (.i2l, 1) := by decide +kernel
theorem dX12_light_14 : decode cX12_light 14 = .ok (.lconst 0, 1) := by decide +kernel
theorem dX12_light_15 : decode cX12_light 15 = .ok (.ldc2_w 138, 3) := by decide +kernel
theorem dX12_light_18 : decode cX12_light 18 = .ok (.invokestatic 140, 3) := by decide +kernel
theorem dX12_light_21 : decode cX12_light 21 = .ok (.ifCond .eq 11, 3) := by decide +kernel
theorem dX12_light_24 : decode cX12_light 24 = .ok (.aload_n 0, 1) := by decide +kernel
theorem dX12_light_25 : decode cX12_light 25 = .ok (.getfield 148, 3) := by decide +kernel
theorem dX12_light_28 : decode cX12_light 28 = .ok (.iconst 1, 1) := by decide +kernel
theorem dX12_light_29 : decode cX12_light 29 = .ok (.if_icmp .eq 5, 3) := by decide +kernel
theorem dX12_light_32 : decode cX12_light 32 = .ok (.iconst (-1), 1) := by decide +kernel
theorem dX12_light_33 : decode cX12_light 33 = .ok (.ireturn, 1) := by decide +kernel
theorem dX12_light_34 : decode cX12_light 34 = .ok (.aload_n 0, 1) := by decide +kernel
theorem dX12_light_35 : decode cX12_light 35 = .ok (.iconst 0, 1) := by decide +kernel
theorem dX12_light_36 : decode cX12_light 36 = .ok (.putfield 148, 3) := by decide +kernel
theorem dX12_light_39 : decode cX12_light 39 = .ok (.iconst 0, 1) := by decide +kernel
theorem dX12_light_40 : decode cX12_light 40 = .ok (.istore_n 3, 1) := by decide +kernel
theorem dX12_light_41 : decode cX12_light 41 = .ok (.iload_n 3, 1) := by decide +kernel
theorem dX12_light_42 : decode cX12_light 42 = .ok (.iconst 3, 1) := by decide +kernel
theorem dX12_light_43 : decode cX12_light 43 = .ok (.if_icmp .ge 25, 3) := by decide +kernel
theorem dX12_light_46 : decode cX12_light 46 = .ok (.aload_n 0, 1) := by decide +kernel
theorem dX12_light_47 : decode cX12_light 47 = .ok (.getfield 36, 3) := by decide +kernel
theorem dX12_light_50 : decode cX12_light 50 = .ok (.iconst 3, 1) := by decide +kernel
theorem dX12_light_51 : decode cX12_light 51 = .ok (.iload_n 1, 1) := by decide +kernel
theorem dX12_light_52 : decode cX12_light 52 = .ok (.imul, 1) := by decide +kernel
theorem dX12_light_53 : decode cX12_light 53 = .ok (.iload_n 3, 1) := by decide +kernel
theorem dX12_light_54 : decode cX12_light 54 = .ok (.iadd, 1) := by decide +kernel
theorem dX12_light_55 : decode cX12_light 55 = .ok (.aload_n 0, 1) := by decide +kernel
theorem dX12_light_56 : decode cX12_light 56 = .ok (.getfield 7, 3) := by decide +kernel
theorem dX12_light_59 : decode cX12_light 59 = .ok (.iload_n 3, 1) := by decide +kernel
theorem dX12_light_60 : decode cX12_light 60 = .ok (.iaload, 1) := by decide +kernel
theorem dX12_light_61 : decode cX12_light 61 = .ok (.iastore, 1) := by decide +kernel
theorem dX12_light_62 : decode cX12_light 62 = .ok (.iinc 3 1, 3) := by decide +kernel
theorem dX12_light_65 : decode cX12_light 65 = .ok (.goto (-24), 3) := by decide +kernel
theorem dX12_light_68 : decode cX12_light 68 = .ok (.aload_n 0, 1) := by decide +kernel
theorem dX12_light_69 : decode cX12_light 69 = .ok (.getfield 39, 3) := by decide +kernel
theorem dX12_light_72 : decode cX12_light 72 = .ok (.iload_n 1, 1) := by decide +kernel
theorem dX12_light_73 : decode cX12_light 73 = .ok (.iload_n 2, 1) := by decide +kernel
theorem dX12_light_74 : decode cX12_light 74 = .ok (.iastore, 1) := by decide +kernel
theorem dX12_light_75 : decode cX12_light 75 = .ok (.iconst 0, 1) := by decide +kernel
theorem dX12_light_76 : decode cX12_light 76 = .ok (.ireturn, 1) := by decide +kernel
theorem dX12_set_0 : decode cX12_set 0 = .ok (.iload_n 1, 1) := by decide +kernel
theorem dX12_set_1 : decode cX12_set 1 = .ok (.ifCond .ne 15, 3) := by decide +kernel
theorem dX12_set_4 : decode cX12_set 4 = .ok (.iload_n 2, 1) := by decide +kernel
theorem dX12_set_5 : decode cX12_set 5 = .ok (.i2l, 1) := by decide +kernel
theorem dX12_set_6 : decode cX12_set 6 = .ok (.lconst 0, 1) := by decide +kernel
theorem dX12_set_7 : decode cX12_set 7 = .ok (.ldc2_w 179, 3) := by decide +kernel
theorem dX12_set_10 : decode cX12_set 10 = .ok (.invokestatic 140, 3) := by decide +kernel
theorem dX12_set_13 : decode cX12_set 13 = .ok (.goto 39, 3) := by decide +kernel
theorem dX12_set_16 : decode cX12_set 16 = .ok (.iload_n 1, 1) := by decide +kernel
theorem dX12_set_17 : decode cX12_set 17 = .ok (.iconst 3, 1) := by decide +kernel
theorem dX12_set_18 : decode cX12_set 18 = .ok (.if_icmp .ne 19, 3) := by decide +kernel
theorem dX12_set_21 : decode cX12_set 21 = .ok (.iload_n 2, 1) := by decide +kernel
theorem dX12_set_22 : decode cX12_set 22 = .ok (.i2l, 1) := by decide +kernel
theorem dX12_set_23 : decode cX12_set 23 = .ok (.lconst 0, 1) := by decide +kernel
theorem dX12_set_24 : decode cX12_set 24 = .ok (.aload_n 0, 1) := by decide +kernel
theorem dX12_set_25 : decode cX12_set 25 = .ok (.getfield 151, 3) := by decide +kernel
theorem dX12_set_28 : decode cX12_set 28 = .ok (.iconst 1, 1) := by decide +kernel
theorem dX12_set_29 : decode cX12_set 29 = .ok (.isub, 1) := by decide +kernel
theorem dX12_set_30 : decode cX12_set 30 = .ok (.i2l, 1) := by decide +kernel
theorem dX12_set_31 : decode cX12_set 31 = .ok (.invokestatic 140, 3) := by decide +kernel
theorem dX12_set_34 : decode cX12_set 34 = .ok (.goto 18, 3) := by decide +kernel
theorem dX12_set_37 : decode cX12_set 37 = .ok (.iload_n 1, 1) := by decide +kernel
theorem dX12_set_38 : decode cX12_set 38 = .ok (.iconst 1, 1) := by decide +kernel
theorem dX12_set_39 : decode cX12_set 39 = .ok (.if_icmp .eq 8, 3) := by decide +kernel
theorem dX12_set_42 : decode cX12_set 42 = .ok (.iload_n 1, 1) := by decide +kernel
theorem dX12_set_43 : decode cX12_set 43 = .ok (.iconst 2, 1) := by decide +kernel
theorem dX12_set_44 : decode cX12_set 44 = .ok (.if_icmp .ne 7, 3) := by decide +kernel
theorem dX12_set_47 : decode cX12_set 47 = .ok (.iconst 1, 1) := by decide +kernel
theorem dX12_set_48 : decode cX12_set 48 = .ok (.goto 4, 3) := by decide +kernel
theorem dX12_set_51 : decode cX12_set 51 = .ok (.iconst 0, 1) := by decide +kernel
theorem dX12_set_52 : decode cX12_set 52 = .ok (.istore 4, 2) := by decide +kernel
theorem dX12_set_54 : decode cX12_set 54 = .ok (.iload 4, 2) := by decide +kernel
theorem dX12_set_56 : decode cX12_set 56 = .ok (.ifCond .eq 15, 3) := by decide +kernel
theorem dX12_set_59 : decode cX12_set 59 = .ok (.iload_n 3, 1) := by decide +kernel
theorem dX12_set_60 : decode cX12_set 60 = .ok (.i2l, 1) := by decide +kernel
theorem dX12_set_61 : decode cX12_set 61 = .ok (.lconst 0, 1) := by decide +kernel
theorem dX12_set_62 : decode cX12_set 62 = .ok (.ldc2_w 138, 3) := by decide +kernel
theorem dX12_set_65 : decode cX12_set 65 = .ok (.invokestatic 140, 3) := by decide +kernel
theorem dX12_set_68 : decode cX12_set 68 = .ok (.ifCond .ne 5, 3) := by decide +kernel
theorem dX12_set_71 : decode cX12_set 71 = .ok (.iconst (-1), 1) := by decide +kernel
theorem dX12_set_72 : decode cX12_set 72 = .ok (.ireturn, 1) := by decide +kernel
theorem dX12_set_73 : decode cX12_set 73 = .ok (.iload_n 1, 1) := by decide +kernel
theorem dX12_set_74 : decode cX12_set 74 = .ok (.ifCond .ne 21, 3) := by decide +kernel
theorem dX12_set_77 : decode cX12_set 77 = .ok (.aload_n 0, 1) := by decide +kernel
theorem dX12_set_78 : decode cX12_set 78 = .ok (.getfield 42, 3) := by decide +kernel
theorem dX12_set_81 : decode cX12_set 81 = .ok (.iload_n 2, 1) := by decide +kernel
theorem dX12_set_82 : decode cX12_set 82 = .ok (.iaload, 1) := by decide +kernel
theorem dX12_set_83 : decode cX12_set 83 = .ok (.istore 5, 2) := by decide +kernel
theorem dX12_set_85 : decode cX12_set 85 = .ok (.aload_n 0, 1) := by decide +kernel
theorem dX12_set_86 : decode cX12_set 86 = .ok (.getfield 42, 3) := by decide +kernel
theorem dX12_set_89 : decode cX12_set 89 = .ok (.iload_n 2, 1) := by decide +kernel
theorem dX12_set_90 : decode cX12_set 90 = .ok (.iload_n 3, 1) := by decide +kernel
theorem dX12_set_91 : decode cX12_set 91 = .ok (.iastore, 1) := by decide +kernel
theorem dX12_set_92 : decode cX12_set 92 = .ok (.goto 56, 3) := by decide +kernel
theorem dX12_set_95 : decode cX12_set 95 = .ok (.iload_n 1, 1) := by decide +kernel
theorem dX12_set_96 : decode cX12_set 96 = .ok (.iconst 1, 1) := by decide +kernel
