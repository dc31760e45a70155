theorem dX11_init_203 : decode cX11_init 203 = .ok (.aload_n 0, 1) := by decide +kernel
theorem dX11_init_204 : decode cX11_init 204 = .ok (.bipush 80, 2) := by decide +kernel
theorem dX11_init_206 : decode cX11_init 206 = .ok (.newarray .int, 2) := by decide +kernel
theorem dX11_init_208 : decode cX11_init 208 = .ok (.putfield 86, 3) := by decide +kernel
theorem dX11_init_211 : decode cX11_init 211 = .ok (.aload_n 0, 1) := by decide +kernel
theorem dX11_init_212 : decode cX11_init 212 = .ok (.sipush 400, 3) := by decide +kernel
theorem dX11_init_215 : decode cX11_init 215 = .ok (.newarray .int, 2) := by decide +kernel
theorem dX11_init_217 : decode cX11_init 217 = .ok (.putfield 89, 3) := by decide +kernel
theorem dX11_init_220 : decode cX11_init 220 = .ok (.aload_n 0, 1) := by decide +kernel
theorem dX11_init_221 : decode cX11_init 221 = .ok (.sipush 400, 3) := by decide +kernel
theorem dX11_init_224 : decode cX11_init 224 = .ok (.newarray .int, 2) := by decide +kernel
theorem dX11_init_226 : decode cX11_init 226 = .ok (.putfield 92, 3) := by decide +kernel
theorem dX11_init_229 : decode cX11_init 229 = .ok (.aload_n 0, 1) := by decide +kernel
theorem dX11_init_230 : decode cX11_init 230 = .ok (.sipush 320, 3) := by decide +kernel
theorem dX11_init_233 : decode cX11_init 233 = .ok (.newarray .int, 2) := by decide +kernel
theorem dX11_init_235 : decode cX11_init 235 = .ok (.putfield 95, 3) := by decide +kernel
theorem dX11_init_238 : decode cX11_init 238 = .ok (.aload_n 0, 1) := by decide +kernel
theorem dX11_init_239 : decode cX11_init 239 = .ok (.iconst 2, 1) := by decide +kernel
theorem dX11_init_240 : decode cX11_init 240 = .ok (.newarray .int, 2) := by decide +kernel
theorem dX11_init_242 : decode cX11_init 242 = .ok (.putfield 98, 3) := by decide +kernel
theorem dX11_init_245 : decode cX11_init 245 = .ok (.aload_n 0, 1) := by decide +kernel
theorem dX11_init_246 : decode cX11_init 246 = .ok (.sipush 400, 3) := by decide +kernel
theorem dX11_init_249 : decode cX11_init 249 = .ok (.newarray .int, 2) := by decide +kernel
theorem dX11_init_251 : decode cX11_init 251 = .ok (.putfield 101, 3) := by decide +kernel
theorem dX11_init_254 : decode cX11_init 254 = .ok (.aload_n 0, 1) := by decide +kernel
theorem dX11_init_255 : decode cX11_init 255 = .ok (.iconst 4, 1) := by decide +kernel
theorem dX11_init_256 : decode cX11_init 256 = .ok (.newarray .int, 2) := by decide +kernel
theorem dX11_init_258 : decode cX11_init 258 = .ok (.putfield 104, 3) := by decide +kernel
theorem dX11_init_261 : decode cX11_init 261 = .ok (.aload_n 0, 1) := by decide +kernel
theorem dX11_init_262 : decode cX11_init 262 = .ok (.sipush 160, 3) := by decide +kernel
theorem dX11_init_265 : decode cX11_init 265 = .ok (.newarray .int, 2) := by decide +kernel
theorem dX11_init_267 : decode cX11_init 267 = .ok (.putfield 107, 3) := by decide +kernel
theorem dX11_init_270 : decode cX11_init 270 = .ok (.aload_n 0, 1) := by decide +kernel
theorem dX11_init_271 : decode cX11_init 271 = .ok (.sipush 160, 3) := by decide +kernel
theorem dX11_init_274 : decode cX11_init 274 = .ok (.newarray .int, 2) := by decide +kernel
theorem dX11_init_276 : decode cX11_init 276 = .ok (.putfield 110, 3) := by decide +kernel
theorem dX11_init_279 : decode cX11_init 279 = .ok (.aload_n 0, 1) := by decide +kernel
theorem dX11_init_280 : decode cX11_init 280 = .ok (.sipush 160, 3) := by decide +kernel
theorem dX11_init_283 : decode cX11_init 283 = .ok (.newarray .int, 2) := by decide +kernel
theorem dX11_init_285 : decode cX11_init 285 = .ok (.putfield 113, 3) := by decide +kernel
theorem dX11_init_288 : decode cX11_init 288 = .ok (.aload_n 0, 1) := by decide +kernel
theorem dX11_init_289 : decode cX11_init 289 = .ok (.iconst 3, 1) := by decide +kernel
theorem dX11_init_290 : decode cX11_init 290 = .ok (.newarray .int, 2) := by decide +kernel
theorem dX11_init_292 : decode cX11_init 292 = .ok (.putfield 116, 3) := by decide +kernel
theorem dX11_init_295 : decode cX11_init 295 = .ok (.aload_n 0, 1) := by decide +kernel
theorem dX11_init_296 : decode cX11_init 296 = .ok (.bipush 24, 2) := by decide +kernel
theorem dX11_init_298 : decode cX11_init 298 = .ok (.newarray .int, 2) := by decide +kernel
theorem dX11_init_300 : decode cX11_init 300 = .ok (.putfield 119, 3) := by decide +kernel
theorem dX11_init_303 : decode cX11_init 303 = .ok (.aload_n 0, 1) := by decide +kernel
theorem dX11_init_304 : decode cX11_init 304 = .ok (.bipush 24, 2) := by decide +kernel
theorem dX11_init_306 : decode cX11_init 306 = .ok (.newarray .boolean, 2) := by decide +kernel
theorem dX11_init_308 : decode cX11_init 308 = .ok (.putfield 122, 3) := by decide +kernel
theorem dX11_init_311 : decode cX11_init 311 = .ok (.aload_n 0, 1) := by decide +kernel
theorem dX11_init_312 : decode cX11_init 312 = .ok (.sipush 374, 3) := by decide +kernel
theorem dX11_init_315 : decode cX11_init 315 = .ok (.newarray .int, 2) := by decide +kernel
theorem dX11_init_317 : decode cX11_init 317 = .ok (.putfield 125, 3) := by decide +kernel
theorem dX11_init_320 : decode cX11_init 320 = .ok (.aload_n 0, 1) := by decide +kernel
theorem dX11_init_321 : decode cX11_init 321 = .ok (.sipush 374, 3) := by decide +kernel
theorem dX11_init_324 : decode cX11_init 324 = .ok (.newarray .int, 2) := by decide +kernel
theorem dX11_init_326 : decode cX11_init 326 = .ok (.putfield 128, 3) := by decide +kernel
theorem dX11_init_329 : decode cX11_init 329 = .ok (.aload_n 0, 1) := by decide +kernel
theorem dX11_init_330 : decode cX11_init 330 = .ok (.sipush 374, 3) := by decide +kernel
theorem dX11_init_333 : decode cX11_init 333 = .ok (.newarray .int, 2) := by decide +kernel
theorem dX11_init_335 : decode cX11_init 335 = .ok (.putfield 131, 3) := by decide +kernel
theorem dX11_init_338 : decode cX11_init 338 = .ok (.aload_n 0, 1) := by decide +kernel
theorem dX11_init_339 : decode cX11_init 339 = .ok (.sipush 748, 3) := by decide +kernel
theorem dX11_init_342 : decode cX11_init 342 = .ok (.newarray .int, 2) := by decide +kernel
theorem dX11_init_344 : decode cX11_init 344 = .ok (.putfield 134, 3) := by decide +kernel
theorem dX11_init_347 : decode cX11_init 347 = .ok (.aload_n 0, 1) := by decide +kernel
theorem dX11_init_348 : decode cX11_init 348 = .ok (.iconst 2, 1) := by decide +kernel
theorem dX11_init_349 : decode cX11_init 349 = .ok (.newarray .boolean, 2) := by decide +kernel
theorem dX11_init_351 : decode cX11_init 351 = .ok (.putfield 137, 3) := by decide +kernel
theorem dX11_init_354 : decode cX11_init 354 = .ok (.aload_n 0, 1) := by decide +kernel
theorem dX11_init_355 : decode cX11_init 355 = .ok (.bipush 40, 2) := by decide +kernel
theorem dX11_init_357 : decode cX11_init 357 = .ok (.newarray .boolean, 2) := by decide +kernel
theorem dX11_init_359 : decode cX11_init 359 = .ok (.putfield 140, 3) := by decide +kernel
theorem dX11_init_362 : decode cX11_init 362 = .ok (.aload_n 0, 1) := by decide +kernel
theorem dX11_init_363 : decode cX11_init 363 = .ok (.bipush 13, 2) := by decide +kernel
theorem dX11_init_365 : decode cX11_init 365 = .ok (.newarray .int, 2) := by decide +kernel
theorem dX11_init_367 : decode cX11_init 367 = .ok (.putfield 143, 3) := by decide +kernel
theorem dX11_init_370 : decode cX11_init 370 = .ok (.aload_n 0, 1) := by decide +kernel
theorem dX11_init_371 : decode cX11_init 371 = .ok (.sipush 2080, 3) := by decide +kernel
theorem dX11_init_374 : decode cX11_init 374 = .ok (.newarray .boolean, 2) := by decide +kernel
theorem dX11_init_376 : decode cX11_init 376 = .ok (.putfield 146, 3) := by decide +kernel
theorem dX11_init_379 : decode cX11_init 379 = .ok (.aload_n 0, 1) := by decide +kernel
theorem dX11_init_380 : decode cX11_init 380 = .ok (.getfield 13, 3) := by decide +kernel
theorem dX11_init_383 : decode cX11_init 383 = .ok (.iconst 2, 1) := by decide +kernel
theorem dX11_init_384 : decode cX11_init 384 = .ok (.iconst 4, 1) := by decide +kernel
theorem dX11_init_385 : decode cX11_init 385 = .ok (.iastore, 1) := by decide +kernel
theorem dX11_init_386 : decode cX11_init 386 = .ok (.aload_n 0, 1) := by decide +kernel
theorem dX11_init_387 : decode cX11_init 387 = .ok (.invokevirtual 149, 3) := by decide +kernel
theorem dX11_init_390 : decode cX11_init 390 = .ok (.return_, 1) := by decide +kernel
theorem dX11_thrown_0 : decode cX11_thrown 0 = .ok (.aload_n 0, 1) := by decide +kernel
theorem dX11_thrown_1 : decode cX11_thrown 1 = .ok (.getfield 152, 3) := by decide +kernel
theorem dX11_thrown_4 : decode cX11_thrown 4 = .ok (.ireturn, 1) := by decide +kernel
theorem dX11_within_0 : decode cX11_within 0 = .ok (.iload_n 0, 1) := by decide +kernel
theorem dX11_within_1 : decode cX11_within 1 = .ok (.iload_n 1, 1) := by decide +kernel
theorem dX11_within_2 : decode cX11_within 2 = .ok (.if_icmp .lt 12, 3) := by decide +kernel
theorem dX11_within_5 : decode cX11_within 5 = .ok (.iload_n 0, 1) := by decide +kernel
theorem dX11_within_6 : decode cX11_within 6 = .ok (.iload_n 2, 1) := by decide +kernel
theorem dX11_within_7 : decode cX11_within 7 = .ok (.if_icmp .gt 7, 3) := by decide +kernel
theorem dX11_within_10 : decode cX11_within 10 = .ok (.iconst 1, 1) := by decide +kernel
theorem dX11_within_11 : decode cX11_within 11 = .ok (.goto 4, 3) := by decide +kernel
theorem dX11_within_14 : decode cX11_within 14 = .ok (.iconst 0, 1) := by decide +kernel
theorem dX11_within_15 : decode cX11_within 15 = .ok (.ireturn, 1) := by decide +kernel
theorem dX11_isIn_0 : decode cX11_isIn 0 = .ok (.iload_n 0, 1) := by decide +kernel
theorem dX11_isIn_1 : decode cX11_isIn 1 = .ok (.iload_n 1, 1) := by decide +kernel
theorem dX11_isIn_2 : decode cX11_isIn 2 = .ok (.ishr, 1) := by decide +kernel
theorem dX11_isIn_3 : decode cX11_isIn 3 = .ok (.iconst 1, 1) := by decide +kernel
theorem dX11_isIn_4 : decode cX11_isIn 4 = .ok (.iand, 1) := by decide +kernel
theorem dX11_isIn_5 : decode cX11_isIn 5 = .ok (.iconst 1, 1) := by decide +kernel
theorem dX11_isIn_6 : decode cX11_isIn 6 = .ok (.if_icmp .ne 7, 3) := by decide +kernel
theorem dX11_isIn_9 : decode cX11_isIn 9 = .ok (.iconst 1, 1) := by decide +kernel
theorem dX11_isIn_10 : decode cX11_isIn 10 = .ok (.goto 4, 3) := by decide +kernel
theorem dX11_isIn_13 : decode cX11_isIn 13 = .ok (.iconst 0, 1) := by decide +kernel
theorem dX11_isIn_14 : decode cX11_isIn 14 = .ok (.ireturn, 1) := by decide +kernel
theorem dX11_bits_0 : decode cX11_bits 0 = .ok (.iconst 0, 1) := by decide +kernel
theorem dX11_bits_1 : decode cX11_bits 1 = .ok (.istore_n 1, 1) := by decide +kernel
theorem dX11_bits_2 : decode cX11_bits 2 = .ok (.iconst 0, 1) := by decide +kernel
theorem dX11_bits_3 : decode cX11_bits 3 = .ok (.istore_n 2, 1) := by decide +kernel
theorem dX11_bits_4 : decode cX11_bits 4 = .ok (.iload_n 2, 1) := by decide +kernel
theorem dX11_bits_5 : decode cX11_bits 5 = .ok (.bipush 13, 2) := by decide +kernel
theorem dX11_bits_7 : decode cX11_bits 7 = .ok (.if_icmp .ge 17, 3) := by decide +kernel
theorem dX11_bits_10 : decode cX11_bits 10 = .ok (.iload_n 1, 1) := by decide +kernel
theorem dX11_bits_11 : decode cX11_bits 11 = .ok (.iload_n 0, 1) := by decide +kernel
theorem dX11_bits_12 : decode cX11_bits 12 = .ok (.iload_n 2, 1) := by decide +kernel
theorem dX11_bits_13 : decode cX11_bits 13 = .ok (.ishr, 1) := by decide +kernel
theorem dX11_bits_14 : decode cX11_bits 14 = .ok (.iconst 1, 1) := by decide +kernel
theorem dX11_bits_15 : decode cX11_bits 15 = .ok (.iand, 1) := by decide +kernel
theorem dX11_bits_16 : decode cX11_bits 16 = .ok (.iadd, 1) := by decide +kernel
theorem dX11_bits_17 : decode cX11_bits 17 = .ok (.istore_n 1, 1) := by decide +kernel
theorem dX11_bits_18 : decode cX11_bits 18 = .ok (.iinc 2 1, 3) := by decide +kernel
theorem dX11_bits_21 : decode cX11_bits 21 = .ok (.goto (-17), 3) := by decide +kernel
theorem dX11_bits_24 : decode cX11_bits 24 = .ok (.iload_n 1, 1) := by decide +kernel
theorem dX11_bits_25 : decode cX11_bits 25 = .ok (.ireturn, 1) := by decide +kernel
theorem dX11_feed_0 : decode cX11_feed 0 = .ok (.aload_n 0, 1) := by decide +kernel
theorem dX11_feed_1 : decode cX11_feed 1 = .ok (.iconst 0, 1) := by decide +kernel
theorem dX11_feed_2 : decode cX11_feed 2 = .ok (.putfield 152, 3) := by decide +kernel
theorem dX11_feed_5 : decode cX11_feed 5 = .ok (.iconst 0, 1) := by decide +kernel
theorem dX11_feed_6 : decode cX11_feed 6 = .ok (.istore 7, 2) := by decide +kernel
theorem dX11_feed_8 : decode cX11_feed 8 = .ok (.iload 7, 2) := by decide +kernel
theorem dX11_feed_10 : decode cX11_feed 10 = .ok (.bipush 24, 2) := by decide +kernel
theorem dX11_feed_12 : decode cX11_feed 12 = .ok (.if_icmp .ge 108, 3) := by decide +kernel
theorem dX11_feed_15 : decode cX11_feed 15 = .ok (.iload 7, 2) := by decide +kernel
theorem dX11_feed_17 : decode cX11_feed 17 = .ok (.bipush 8, 2) := by decide +kernel
theorem dX11_feed_19 : decode cX11_feed 19 = .ok (.if_icmp .ge 7, 3) := by decide +kernel
theorem dX11_feed_22 : decode cX11_feed 22 = .ok (.lload_n 1, 1) := by decide +kernel
theorem dX11_feed_23 : decode cX11_feed 23 = .ok (.goto 16, 3) := by decide +kernel
theorem dX11_feed_26 : decode cX11_feed 26 = .ok (.iload 7, 2) := by decide +kernel
theorem dX11_feed_28 : decode cX11_feed 28 = .ok (.bipush 16, 2) := by decide +kernel
theorem dX11_feed_30 : decode cX11_feed 30 = .ok (.if_icmp .ge 7, 3) := by decide +kernel
theorem dX11_feed_33 : decode cX11_feed 33 = .ok (.lload_n 3, 1) := by decide +kernel
theorem dX11_feed_34 : decode cX11_feed 34 = .ok (.goto 5, 3) := by decide +kernel
theorem dX11_feed_37 : decode cX11_feed 37 = .ok (.lload 5, 2) := by decide +kernel
theorem dX11_feed_39 : decode cX11_feed 39 = .ok (.lstore 8, 2) := by decide +kernel
theorem dX11_feed_41 : decode cX11_feed 41 = .ok (.lload 8, 2) := by decide +kernel
theorem dX11_feed_43 : decode cX11_feed 43 = .ok (.bipush 56, 2) := by decide +kernel
theorem dX11_feed_45 : decode cX11_feed 45 = .ok (.bipush 8, 2) := by decide +kernel
theorem dX11_feed_47 : decode cX11_feed 47 = .ok (.iload 7, 2) := by decide +kernel
theorem dX11_feed_49 : decode cX11_feed 49 = .ok (.bipush 7, 2) := by decide +kernel
theorem dX11_feed_51 : decode cX11_feed 51 = .ok (.iand, 1) := by decide +kernel
theorem dX11_feed_52 : decode cX11_feed 52 = .ok (.imul, 1) := by decide +kernel
theorem dX11_feed_53 : decode cX11_feed 53 = .ok (.isub, 1) := by decide +kernel
theorem dX11_feed_54 : decode cX11_feed 54 = .ok (.lushr, 1) := by decide +kernel
theorem dX11_feed_55 : decode cX11_feed 55 = .ok (.ldc2_w 156, 3) := by decide +kernel
theorem dX11_feed_58 : decode cX11_feed 58 = .ok (.land, 1) := by decide +kernel
theorem dX11_feed_59 : decode cX11_feed 59 = .ok (.l2i, 1) := by decide +kernel
theorem dX11_feed_60 : decode cX11_feed 60 = .ok (.istore 10, 2) := by decide +kernel
theorem dX11_feed_62 : decode cX11_feed 62 = .ok (.aload_n 0, 1) := by decide +kernel
theorem dX11_feed_63 : decode cX11_feed 63 = .ok (.getfield 158, 3) := by decide +kernel
theorem dX11_feed_66 : decode cX11_feed 66 = .ok (.sipush 1000, 3) := by decide +kernel
theorem dX11_feed_69 : decode cX11_feed 69 = .ok (.if_icmp .ge 45, 3) := by decide +kernel
theorem dX11_feed_72 : decode cX11_feed 72 = .ok (.iload 10, 2) := by decide +kernel
theorem dX11_feed_74 : decode cX11_feed 74 = .ok (.bipush 10, 2) := by decide +kernel
theorem dX11_feed_76 : decode cX11_feed 76 = .ok (.if_icmp .eq 17, 3) := by decide +kernel
theorem dX11_feed_79 : decode cX11_feed 79 = .ok (.iload 10, 2) := by decide +kernel
theorem dX11_feed_81 : decode cX11_feed 81 = .ok (.bipush 32, 2) := by decide +kernel
theorem dX11_feed_83 : decode cX11_feed 83 = .ok (.if_icmp .lt 31, 3) := by decide +kernel
theorem dX11_feed_86 : decode cX11_feed 86 = .ok (.iload 10, 2) := by decide +kernel
theorem dX11_feed_88 : decode cX11_feed 88 = .ok (.bipush 126, 2) := by decide +kernel
theorem dX11_feed_90 : decode cX11_feed 90 = .ok (.if_icmp .gt 24, 3) := by decide +kernel
theorem dX11_feed_93 : decode cX11_feed 93 = .ok (.aload_n 0, 1) := by decide +kernel
theorem dX11_feed_94 : decode cX11_feed 94 = .ok (.getfield 7, 3) := by decide +kernel
theorem dX11_feed_97 : decode cX11_feed 97 = .ok (.aload_n 0, 1) := by decide +kernel
theorem dX11_feed_98 : decode cX11_feed 98 = .ok (.getfield 158, 3) := by decide +kernel
theorem dX11_feed_101 : decode cX11_feed 101 = .ok (.iload 10, 2) := by decide +kernel
theorem dX11_feed_103 : decode cX11_feed 103 = .ok (.iastore, 1) := by decide +kernel
theorem dX11_feed_104 : decode cX11_feed 104 = .ok (.aload_n 0, 1) := by decide +kernel
theorem dX11_feed_105 : decode cX11_feed 105 = .ok (.dup, 1) := by decide +kernel
theorem dX11_feed_106 : decode cX11_feed 106 = .ok (.getfield 158, 3) := by decide +kernel
theorem dX11_feed_109 : decode cX11_feed 109 = .ok (.iconst 1, 1) := by decide +kernel
theorem dX11_feed_110 : decode cX11_feed 110 = .ok (.iadd, 1) := by decide +kernel
theorem dX11_feed_111 : decode cX11_feed 111 = .ok (.putfield 158, 3) := by decide +kernel
theorem dX11_feed_114 : decode cX11_feed 114 = .ok (.iinc 7 1, 3) := by decide +kernel
theorem dX11_feed_117 : decode cX11_feed 117 = .ok (.goto (-109), 3) := by decide +kernel
theorem dX11_feed_120 : decode cX11_feed 120 = .ok (.aload_n 0, 1) := by decide +kernel
theorem dX11_feed_121 : decode cX11_feed 121 = .ok (.getfield 158, 3) := by decide +kernel
theorem dX11_feed_124 : decode cX11_feed 124 = .ok (.ireturn, 1) := by decide +kernel
theorem dX11_signAt_0 : decode cX11_signAt 0 = .ok (.iload_n 1, 1) := by decide +kernel
theorem dX11_signAt_1 : decode cX11_signAt 1 = .ok (.aload_n 0, 1) := by decide +kernel
theorem dX11_signAt_2 : decode cX11_signAt 2 = .ok (.getfield 161, 3) := by decide +kernel
theorem dX11_signAt_5 : decode cX11_signAt 5 = .ok (.if_icmp .ge 12, 3) := by decide +kernel
theorem dX11_signAt_8 : decode cX11_signAt 8 = .ok (.aload_n 0, 1) := by decide +kernel
theorem dX11_signAt_9 : decode cX11_signAt 9 = .ok (.getfield 7, 3) := by decide +kernel
theorem dX11_signAt_12 : decode cX11_signAt 12 = .ok (.iload_n 1, 1) := by decide +kernel
theorem dX11_signAt_13 : decode cX11_signAt 13 = .ok (.iaload, 1) := by decide +kernel
theorem dX11_signAt_14 : decode cX11_signAt 14 = .ok (.goto 4, 3) := by decide +kernel
theorem dX11_signAt_17 : decode cX11_signAt 17 = .ok (.iconst 0, 1) := by decide +kernel
theorem dX11_signAt_18 : decode cX11_signAt 18 = .ok (.ireturn, 1) := by decide +kernel
theorem dX11_nextToken_0 : decode cX11_nextToken 0 = .ok (.aload_n 0, 1) := by decide +kernel
theorem dX11_nextToken_1 : decode cX11_nextToken 1 = .ok (.getfield 164, 3) := by decide +kernel
theorem dX11_nextToken_4 : decode cX11_nextToken 4 = .ok (.aload_n 0, 1) := by decide +kernel
theorem dX11_nextToken_5 : decode cX11_nextToken 5 = .ok (.getfield 161, 3) := by decide +kernel
theorem dX11_nextToken_8 : decode cX11_nextToken 8 = .ok (.if_icmp .ge 44, 3) := by decide +kernel
theorem dX11_nextToken_11 : decode cX11_nextToken 11 = .ok (.aload_n 0, 1) := by decide +kernel
theorem dX11_nextToken_12 : decode cX11_nextToken 12 = .ok (.getfield 7, 3) := by decide +kernel
theorem dX11_nextToken_15 : decode cX11_nextToken 15 = .ok (.aload_n 0, 1) := by decide +kernel
theorem dX11_nextToken_16 : decode cX11_nextToken 16 = .ok (.getfield 164, 3) := by decide +kernel
theorem dX11_nextToken_19 : decode cX11_nextToken 19 = .ok (.iaload, 1) := by decide +kernel
theorem dX11_nextToken_20 : decode cX11_nextToken 20 = .ok (.bipush 32, 2) := by decide +kernel
theorem dX11_nextToken_22 : decode cX11_nextToken 22 = .ok (.if_icmp .eq 17, 3) := by decide +kernel
theorem dX11_nextToken_25 : decode cX11_nextToken 25 = .ok (.aload_n 0, 1) := by decide +kernel
theorem dX11_nextToken_26 : decode cX11_nextToken 26 = .ok (.getfield 7, 3) := by decide +kernel
theorem dX11_nextToken_29 : decode cX11_nextToken 29 = .ok (.aload_n 0, 1) := by decide +kernel
theorem dX11_nextToken_30 : decode cX11_nextToken 30 = .ok (.getfield 164, 3) := by decide +kernel
theorem dX11_nextToken_33 : decode cX11_nextToken 33 = .ok (.iaload, 1) := by decide +kernel
theorem dX11_nextToken_34 : decode cX11_nextToken 34 = .ok (.bipush 10, 2) := by decide +kernel
theorem dX11_nextToken_36 : decode cX11_nextToken 36 = .ok (.if_icmp .ne 16, 3) := by decide +kernel
theorem dX11_nextToken_39 : decode cX11_nextToken 39 = .ok (.aload_n 0, 1) := by decide +kernel
theorem dX11_nextToken_40 : decode cX11_nextToken 40 = .ok (.dup, 1) := by decide +kernel
theorem dX11_nextToken_41 : decode cX11_nextToken 41 = .ok (.getfield 164, 3) := by decide +kernel
theorem dX11_nextToken_44 : decode cX11_nextToken 44 = .ok (.iconst 1, 1) := by decide +kernel
theorem dX11_nextToken_45 : decode cX11_nextToken 45 = .ok (.iadd, 1) := by decide +kernel
theorem dX11_nextToken_46 : decode cX11_nextToken 46 = .ok (.putfield 164, 3) := by decide +kernel
theorem dX11_nextToken_49 : decode cX11_nextToken 49 = .ok (.goto (-49), 3) := by decide +kernel
theorem dX11_nextToken_52 : decode cX11_nextToken 52 = .ok (.aload_n 0, 1) := by decide +kernel
theorem dX11_nextToken_53 : decode cX11_nextToken 53 = .ok (.aload_n 0, 1) := by decide +kernel
theorem dX11_nextToken_54 : decode cX11_nextToken 54 = .ok (.getfield 164, 3) := by decide +kernel
theorem dX11_nextToken_57 : decode cX11_nextToken 57 = .ok (.putfield 167, 3) := by decide +kernel
theorem dX11_nextToken_60 : decode cX11_nextToken 60 = .ok (.aload_n 0, 1) := by decide +kernel
theorem dX11_nextToken_61 : decode cX11_nextToken 61 = .ok (.lconst 0, 1) := by decide +kernel
theorem dX11_nextToken_62 : decode cX11_nextToken 62 = .ok (.putfield 170, 3) := by decide +kernel
theorem dX11_nextToken_65 : decode cX11_nextToken 65 = .ok (.aload_n 0, 1) := by decide +kernel
theorem dX11_nextToken_66 : decode cX11_nextToken 66 = .ok (.iconst 0, 1) := by decide +kernel
theorem dX11_nextToken_67 : decode cX11_nextToken 67 = .ok (.putfield 174, 3) := by decide +kernel
theorem dX11_nextToken_70 : decode cX11_nextToken 70 = .ok (.aload_n 0, 1) := by decide +kernel
theorem dX11_nextToken_71 : decode cX11_nextToken 71 = .ok (.getfield 164, 3) := by decide +kernel
theorem dX11_nextToken_74 : decode cX11_nextToken 74 = .ok (.aload_n 0, 1) := by decide +kernel
theorem dX11_nextToken_75 : decode cX11_nextToken 75 = .ok (.getfield 161, 3) := by decide +kernel
theorem dX11_nextToken_78 : decode cX11_nextToken 78 = .ok (.if_icmp .ne 9, 3) := by decide +kernel
theorem dX11_nextToken_81 : decode cX11_nextToken 81 = .ok (.aload_n 0, 1) := by decide +kernel
theorem dX11_nextToken_82 : decode cX11_nextToken 82 = .ok (.iconst 0, 1) := by decide +kernel
theorem dX11_nextToken_83 : decode cX11_nextToken 83 = .ok (.putfield 177, 3) := by decide +kernel
theorem dX11_nextToken_86 : decode cX11_nextToken 86 = .ok (.return_, 1) := by decide +kernel
theorem dX11_nextToken_87 : decode cX11_nextToken 87 = .ok (.aload_n 0, 1) := by decide +kernel
theorem dX11_nextToken_88 : decode cX11_nextToken 88 = .ok (.getfield 7, 3) := by decide +kernel
theorem dX11_nextToken_91 : decode cX11_nextToken 91 = .ok (.aload_n 0, 1) := by decide +kernel
theorem dX11_nextToken_92 : decode cX11_nextToken 92 = .ok (.getfield 164, 3) := by decide +kernel
theorem dX11_nextToken_95 : decode cX11_nextToken 95 = .ok (.iaload, 1) := by decide +kernel
theorem dX11_nextToken_96 : decode cX11_nextToken 96 = .ok (.istore_n 1, 1) := by decide +kernel
theorem dX11_nextToken_97 : decode cX11_nextToken 97 = .ok (.iload_n 1, 1) := by decide +kernel
theorem dX11_nextToken_98 : decode cX11_nextToken 98 = .ok (.bipush 97, 2) := by decide +kernel
theorem dX11_nextToken_100 : decode cX11_nextToken 100 = .ok (.if_icmp .lt 112, 3) := by decide +kernel
theorem dX11_nextToken_103 : decode cX11_nextToken 103 = .ok (.iload_n 1, 1) := by decide +kernel
theorem dX11_nextToken_104 : decode cX11_nextToken 104 = .ok (.bipush 122, 2) := by decide +kernel
theorem dX11_nextToken_106 : decode cX11_nextToken 106 = .ok (.if_icmp .gt 106, 3) := by decide +kernel
theorem dX11_nextToken_109 : decode cX11_nextToken 109 = .ok (.aload_n 0, 1) := by decide +kernel
theorem dX11_nextToken_110 : decode cX11_nextToken 110 = .ok (.aload_n 0, 1) := by decide +kernel
theorem dX11_nextToken_111 : decode cX11_nextToken 111 = .ok (.getfield 164, 3) := by decide +kernel
theorem dX11_nextToken_114 : decode cX11_nextToken 114 = .ok (.invokevirtual 180, 3) := by decide +kernel
theorem dX11_nextToken_117 : decode cX11_nextToken 117 = .ok (.bipush 97, 2) := by decide +kernel
theorem dX11_nextToken_119 : decode cX11_nextToken 119 = .ok (.if_icmp .lt 69, 3) := by decide +kernel
theorem dX11_nextToken_122 : decode cX11_nextToken 122 = .ok (.aload_n 0, 1) := by decide +kernel
theorem dX11_nextToken_123 : decode cX11_nextToken 123 = .ok (.aload_n 0, 1) := by decide +kernel
theorem dX11_nextToken_124 : decode cX11_nextToken 124 = .ok (.getfield 164, 3) := by decide +kernel
theorem dX11_nextToken_127 : decode cX11_nextToken 127 = .ok (.invokevirtual 180, 3) := by decide +kernel
theorem dX11_nextToken_130 : decode cX11_nextToken 130 = .ok (.bipush 122, 2) := by decide +kernel
theorem dX11_nextToken_132 : decode cX11_nextToken 132 = .ok (.if_icmp .gt 56, 3) := by decide +kernel
theorem dX11_nextToken_135 : decode cX11_nextToken 135 = .ok (.aload_n 0, 1) := by decide +kernel
theorem dX11_nextToken_136 : decode cX11_nextToken 136 = .ok (.getfield 164, 3) := by decide +kernel
theorem dX11_nextToken_139 : decode cX11_nextToken 139 = .ok (.aload_n 0, 1) := by decide +kernel
theorem dX11_nextToken_140 : decode cX11_nextToken 140 = .ok (.getfield 167, 3) := by decide +kernel
theorem dX11_nextToken_143 : decode cX11_nextToken 143 = .ok (.isub, 1) := by decide +kernel
theorem dX11_nextToken_144 : decode cX11_nextToken 144 = .ok (.bipush 8, 2) := by decide +kernel
theorem dX11_nextToken_146 : decode cX11_nextToken 146 = .ok (.if_icmp .ge 29, 3) := by decide +kernel
theorem dX11_nextToken_149 : decode cX11_nextToken 149 = .ok (.aload_n 0, 1) := by decide +kernel
theorem dX11_nextToken_150 : decode cX11_nextToken 150 = .ok (.aload_n 0, 1) := by decide +kernel
theorem dX11_nextToken_151 : decode cX11_nextToken 151 = .ok (.getfield 170, 3) := by decide +kernel
theorem dX11_nextToken_154 : decode cX11_nextToken 154 = .ok (.ldc2_w 184, 3) := by decide +kernel
theorem dX11_nextToken_157 : decode cX11_nextToken 157 = .ok (.lmul, 1) := by decide +kernel
theorem dX11_nextToken_158 : decode cX11_nextToken 158 = .ok (.aload_n 0, 1) := by decide +kernel
theorem dX11_nextToken_159 : decode cX11_nextToken 159 = .ok (.aload_n 0, 1) := by decide +kernel
theorem dX11_nextToken_160 : decode cX11_nextToken 160 = .ok (.getfield 164, 3) := by decide +kernel
theorem dX11_nextToken_163 : decode cX11_nextToken 163 = .ok (.invokevirtual 180, 3) := by decide +kernel
theorem dX11_nextToken_166 : decode cX11_nextToken 166 = .ok (.i2l, 1) := by decide +kernel
theorem dX11_nextToken_167 : decode cX11_nextToken 167 = .ok (.ladd, 1) := by decide +kernel
theorem dX11_nextToken_168 : decode cX11_nextToken 168 = .ok (.ldc2_w 186, 3) := by decide +kernel
theorem dX11_nextToken_171 : decode cX11_nextToken 171 = .ok (.lsub, 1) := by decide +kernel
theorem dX11_nextToken_172 : decode cX11_nextToken 172 = .ok (.putfield 170, 3) := by decide +kernel
theorem dX11_nextToken_175 : decode cX11_nextToken 175 = .ok (.aload_n 0, 1) := by decide +kernel
theorem dX11_nextToken_176 : decode cX11_nextToken 176 = .ok (.dup, 1) := by decide +kernel
theorem dX11_nextToken_177 : decode cX11_nextToken 177 = .ok (.getfield 164, 3) := by decide +kernel
theorem dX11_nextToken_180 : decode cX11_nextToken 180 = .ok (.iconst 1, 1) := by decide +kernel
theorem dX11_nextToken_181 : decode cX11_nextToken 181 = .ok (.iadd, 1) := by decide +kernel
theorem dX11_nextToken_182 : decode cX11_nextToken 182 = .ok (.putfield 164, 3) := by decide +kernel
theorem dX11_nextToken_185 : decode cX11_nextToken 185 = .ok (.goto (-76), 3) := by decide +kernel
theorem dX11_nextToken_188 : decode cX11_nextToken 188 = .ok (.aload_n 0, 1) := by decide +kernel
theorem dX11_nextToken_189 : decode cX11_nextToken 189 = .ok (.aload_n 0, 1) := by decide +kernel
theorem dX11_nextToken_190 : decode cX11_nextToken 190 = .ok (.getfield 164, 3) := by decide +kernel
theorem dX11_nextToken_193 : decode cX11_nextToken 193 = .ok (.aload_n 0, 1) := by decide +kernel
theorem dX11_nextToken_194 : decode cX11_nextToken 194 = .ok (.getfield 167, 3) := by decide +kernel
theorem dX11_nextToken_197 : decode cX11_nextToken 197 = .ok (.isub, 1) := by decide +kernel
theorem dX11_nextToken_198 : decode cX11_nextToken 198 = .ok (.bipush 8, 2) := by decide +kernel
theorem dX11_nextToken_200 : decode cX11_nextToken 200 = .ok (.if_icmp .le 7, 3) := by decide +kernel
theorem dX11_nextToken_203 : decode cX11_nextToken 203 = .ok (.iconst 4, 1) := by decide +kernel
theorem dX11_nextToken_204 : decode cX11_nextToken 204 = .ok (.goto 4, 3) := by decide +kernel
theorem dX11_nextToken_207 : decode cX11_nextToken 207 = .ok (.iconst 1, 1) := by decide +kernel
theorem dX11_nextToken_208 : decode cX11_nextToken 208 = .ok (.putfield 177, 3) := by decide +kernel
theorem dX11_nextToken_211 : decode cX11_nextToken 211 = .ok (.return_, 1) := by decide +kernel
theorem dX11_nextToken_212 : decode cX11_nextToken 212 = .ok (.iload_n 1, 1) := by decide +kernel
theorem dX11_nextToken_213 : decode cX11_nextToken 213 = .ok (.bipush 48, 2) := by decide +kernel
theorem dX11_nextToken_215 : decode cX11_nextToken 215 = .ok (.if_icmp .lt 107, 3) := by decide +kernel
theorem dX11_nextToken_218 : decode cX11_nextToken 218 = .ok (.iload_n 1, 1) := by decide +kernel
theorem dX11_nextToken_219 : decode cX11_nextToken 219 = .ok (.bipush 57, 2) := by decide +kernel
theorem dX11_nextToken_221 : decode cX11_nextToken 221 = .ok (.if_icmp .gt 101, 3) := by decide +kernel
theorem dX11_nextToken_224 : decode cX11_nextToken 224 = .ok (.aload_n 0, 1) := by decide +kernel
theorem dX11_nextToken_225 : decode cX11_nextToken 225 = .ok (.aload_n 0, 1) := by decide +kernel
theorem dX11_nextToken_226 : decode cX11_nextToken 226 = .ok (.getfield 164, 3) := by decide +kernel
theorem dX11_nextToken_229 : decode cX11_nextToken 229 = .ok (.invokevirtual 180, 3) := by decide +kernel
theorem dX11_nextToken_232 : decode cX11_nextToken 232 = .ok (.bipush 48, 2) := by decide +kernel
theorem dX11_nextToken_234 : decode cX11_nextToken 234 = .ok (.if_icmp .lt 65, 3) := by decide +kernel
theorem dX11_nextToken_237 : decode cX11_nextToken 237 = .ok (.aload_n 0, 1) := by decide +kernel
theorem dX11_nextToken_238 : decode cX11_nextToken 238 = .ok (.aload_n 0, 1) := by decide +kernel
theorem dX11_nextToken_239 : decode cX11_nextToken 239 = .ok (.getfield 164, 3) := by decide +kernel
theorem dX11_nextToken_242 : decode cX11_nextToken 242 = .ok (.invokevirtual 180, 3) := by decide +kernel
theorem dX11_nextToken_245 : decode cX11_nextToken 245 = .ok (.bipush 57, 2) := by decide +kernel
theorem dX11_nextToken_247 : decode cX11_nextToken 247 = .ok (.if_icmp .gt 52, 3) := by decide +kernel
theorem dX11_nextToken_250 : decode cX11_nextToken 250 = .ok (.aload_n 0, 1) := by decide +kernel
theorem dX11_nextToken_251 : decode cX11_nextToken 251 = .ok (.getfield 164, 3) := by decide +kernel
theorem dX11_nextToken_254 : decode cX11_nextToken 254 = .ok (.aload_n 0, 1) := by decide +kernel
theorem dX11_nextToken_255 : decode cX11_nextToken 255 = .ok (.getfield 167, 3) := by decide +kernel
theorem dX11_nextToken_258 : decode cX11_nextToken 258 = .ok (.isub, 1) := by decide +kernel
theorem dX11_nextToken_259 : decode cX11_nextToken 259 = .ok (.iconst 4, 1) := by decide +kernel
theorem dX11_nextToken_260 : decode cX11_nextToken 260 = .ok (.if_icmp .ge 26, 3) := by decide +kernel
theorem dX11_nextToken_263 : decode cX11_nextToken 263 = .ok (.aload_n 0, 1) := by decide +kernel
theorem dX11_nextToken_264 : decode cX11_nextToken 264 = .ok (.aload_n 0, 1) := by decide +kernel
theorem dX11_nextToken_265 : decode cX11_nextToken 265 = .ok (.getfield 174, 3) := by decide +kernel
theorem dX11_nextToken_268 : decode cX11_nextToken 268 = .ok (.bipush 10, 2) := by decide +kernel
theorem dX11_nextToken_270 : decode cX11_nextToken 270 = .ok (.imul, 1) := by decide +kernel
theorem dX11_nextToken_271 : decode cX11_nextToken 271 = .ok (.aload_n 0, 1) := by decide +kernel
theorem dX11_nextToken_272 : decode cX11_nextToken 272 = .ok (.aload_n 0, 1) := by decide +kernel
theorem dX11_nextToken_273 : decode cX11_nextToken 273 = .ok (.getfield 164, 3) := by decide +kernel
theorem dX11_nextToken_276 : decode cX11_nextToken 276 = .ok (.invokevirtual 180, 3) := by decide +kernel
theorem dX11_nextToken_279 : decode cX11_nextToken 279 = .ok (.iadd, 1) := by decide +kernel
theorem dX11_nextToken_280 : decode cX11_nextToken 280 = .ok (.bipush 48, 2) := by decide +kernel
theorem dX11_nextToken_282 : decode cX11_nextToken 282 = .ok (.isub, 1) := by decide +kernel
theorem dX11_nextToken_283 : decode cX11_nextToken 283 = .ok (.putfield 174, 3) := by decide +kernel
theorem dX11_nextToken_286 : decode cX11_nextToken 286 = .ok (.aload_n 0, 1) := by decide +kernel
theorem dX11_nextToken_287 : decode cX11_nextToken 287 = .ok (.dup, 1) := by decide +kernel
theorem dX11_nextToken_288 : decode cX11_nextToken 288 = .ok (.getfield 164, 3) := by decide +kernel
theorem dX11_nextToken_291 : decode cX11_nextToken 291 = .ok (.iconst 1, 1) := by decide +kernel
theorem dX11_nextToken_292 : decode cX11_nextToken 292 = .ok (.iadd, 1) := by decide +kernel
theorem dX11_nextToken_293 : decode cX11_nextToken 293 = .ok (.putfield 164, 3) := by decide +kernel
theorem dX11_nextToken_296 : decode cX11_nextToken 296 = .ok (.goto (-72), 3) := by decide +kernel
theorem dX11_nextToken_299 : decode cX11_nextToken 299 = .ok (.aload_n 0, 1) := by decide +kernel
theorem dX11_nextToken_300 : decode cX11_nextToken 300 = .ok (.aload_n 0, 1) := by decide +kernel
theorem dX11_nextToken_301 : decode cX11_nextToken 301 = .ok (.getfield 164, 3) := by decide +kernel
theorem dX11_nextToken_304 : decode cX11_nextToken 304 = .ok (.aload_n 0, 1) := by decide +kernel
theorem dX11_nextToken_305 : decode cX11_nextToken 305 = .ok (.getfield 167, 3) := by decide +kernel
theorem dX11_nextToken_308 : decode cX11_nextToken 308 = .ok (.isub, 1) := by decide +kernel
theorem dX11_nextToken_309 : decode cX11_nextToken 309 = .ok (.iconst 4, 1) := by decide +kernel
theorem dX11_nextToken_310 : decode cX11_nextToken 310 = .ok (.if_icmp .le 7, 3) := by decide +kernel
theorem dX11_nextToken_313 : decode cX11_nextToken 313 = .ok (.iconst 4, 1) := by decide +kernel
theorem dX11_nextToken_314 : decode cX11_nextToken 314 = .ok (.goto 4, 3) := by decide +kernel
theorem dX11_nextToken_317 : decode cX11_nextToken 317 = .ok (.iconst 2, 1) := by decide +kernel
theorem dX11_nextToken_318 : decode cX11_nextToken 318 = .ok (.putfield 177, 3) := by decide +kernel
theorem dX11_nextToken_321 : decode cX11_nextToken 321 = .ok (.return_, 1) := by decide +kernel
theorem dX11_nextToken_322 : decode cX11_nextToken 322 = .ok (.aload_n 0, 1) := by decide +kernel
theorem dX11_nextToken_323 : decode cX11_nextToken 323 = .ok (.dup, 1) := by decide +kernel
theorem dX11_nextToken_324 : decode cX11_nextToken 324 = .ok (.getfield 164, 3) := by decide +kernel
theorem dX11_nextToken_327 : decode cX11_nextToken 327 = .ok (.iconst 1, 1) := by decide +kernel
theorem dX11_nextToken_328 : decode cX11_nextToken 328 = .ok (.iadd, 1) := by decide +kernel
theorem dX11_nextToken_329 : decode cX11_nextToken 329 = .ok (.putfield 164, 3) := by decide +kernel
theorem dX11_nextToken_332 : decode cX11_nextToken 332 = .ok (.aload_n 0, 1) := by decide +kernel
theorem dX11_nextToken_333 : decode cX11_nextToken 333 = .ok (.iload_n 1, 1) := by decide +kernel
theorem dX11_nextToken_334 : decode cX11_nextToken 334 = .ok (.bipush 40, 2) := by decide +kernel
theorem dX11_nextToken_336 : decode cX11_nextToken 336 = .ok (.if_icmp .lt 9, 3) := by decide +kernel
theorem dX11_nextToken_339 : decode cX11_nextToken 339 = .ok (.iload_n 1, 1) := by decide +kernel
theorem dX11_nextToken_340 : decode cX11_nextToken 340 = .ok (.bipush 43, 2) := by decide +kernel
theorem dX11_nextToken_342 : decode cX11_nextToken 342 = .ok (.if_icmp .le 21, 3) := by decide +kernel
theorem dX11_nextToken_345 : decode cX11_nextToken 345 = .ok (.iload_n 1, 1) := by decide +kernel
theorem dX11_nextToken_346 : decode cX11_nextToken 346 = .ok (.bipush 45, 2) := by decide +kernel
theorem dX11_nextToken_348 : decode cX11_nextToken 348 = .ok (.if_icmp .eq 15, 3) := by decide +kernel
theorem dX11_nextToken_351 : decode cX11_nextToken 351 = .ok (.iload_n 1, 1) := by decide +kernel
theorem dX11_nextToken_352 : decode cX11_nextToken 352 = .ok (.bipush 59, 2) := by decide +kernel
theorem dX11_nextToken_354 : decode cX11_nextToken 354 = .ok (.if_icmp .lt 13, 3) := by decide +kernel
theorem dX11_nextToken_357 : decode cX11_nextToken 357 = .ok (.iload_n 1, 1) := by decide +kernel
theorem dX11_nextToken_358 : decode cX11_nextToken 358 = .ok (.bipush 61, 2) := by decide +kernel
theorem dX11_nextToken_360 : decode cX11_nextToken 360 = .ok (.if_icmp .gt 7, 3) := by decide +kernel
theorem dX11_nextToken_363 : decode cX11_nextToken 363 = .ok (.iconst 3, 1) := by decide +kernel
theorem dX11_nextToken_364 : decode cX11_nextToken 364 = .ok (.goto 4, 3) := by decide +kernel
theorem dX11_nextToken_367 : decode cX11_nextToken 367 = .ok (.iconst 4, 1) := by decide +kernel
theorem dX11_nextToken_368 : decode cX11_nextToken 368 = .ok (.putfield 177, 3) := by decide +kernel
theorem dX11_nextToken_371 : decode cX11_nextToken 371 = .ok (.return_, 1) := by decide +kernel
theorem dX11_isWord_0 : decode cX11_isWord 0 = .ok (.aload_n 0, 1) := by decide +kernel
theorem dX11_isWord_1 : decode cX11_isWord 1 = .ok (.getfield 177, 3) := by decide +kernel
theorem dX11_isWord_4 : decode cX11_isWord 4 = .ok (.iconst 1, 1) := by decide +kernel
theorem dX11_isWord_5 : decode cX11_isWord 5 = .ok (.if_icmp .ne 16, 3) := by decide +kernel
theorem dX11_isWord_8 : decode cX11_isWord 8 = .ok (.aload_n 0, 1) := by decide +kernel
theorem dX11_isWord_9 : decode cX11_isWord 9 = .ok (.getfield 170, 3) := by decide +kernel
theorem dX11_isWord_12 : decode cX11_isWord 12 = .ok (.lload_n 1, 1) := by decide +kernel
theorem dX11_isWord_13 : decode cX11_isWord 13 = .ok (.lcmp, 1) := by decide +kernel
theorem dX11_isWord_14 : decode cX11_isWord 14 = .ok (.ifCond .ne 7, 3) := by decide +kernel
theorem dX11_isWord_17 : decode cX11_isWord 17 = .ok (.iconst 1, 1) := by decide +kernel
theorem dX11_isWord_18 : decode cX11_isWord 18 = .ok (.goto 4, 3) := by decide +kernel
theorem dX11_isWord_21 : decode cX11_isWord 21 = .ok (.iconst 0, 1) := by decide +kernel
theorem dX11_isWord_22 : decode cX11_isWord 22 = .ok (.ireturn, 1) := by decide +kernel
theorem dX11_isSign_0 : decode cX11_isSign 0 = .ok (.aload_n 0, 1) := by decide +kernel
theorem dX11_isSign_1 : decode cX11_isSign 1 = .ok (.getfield 177, 3) := by decide +kernel
theorem dX11_isSign_4 : decode cX11_isSign 4 = .ok (.iconst 3, 1) := by decide +kernel
theorem dX11_isSign_5 : decode cX11_isSign 5 = .ok (.if_icmp .ne 20, 3) := by decide +kernel
theorem dX11_isSign_8 : decode cX11_isSign 8 = .ok (.aload_n 0, 1) := by decide +kernel
theorem dX11_isSign_9 : decode cX11_isSign 9 = .ok (.getfield 7, 3) := by decide +kernel
theorem dX11_isSign_12 : decode cX11_isSign 12 = .ok (.aload_n 0, 1) := by decide +kernel
theorem dX11_isSign_13 : decode cX11_isSign 13 = .ok (.getfield 167, 3) := by decide +kernel
theorem dX11_isSign_16 : decode cX11_isSign 16 = .ok (.iaload, 1) := by decide +kernel
theorem dX11_isSign_17 : decode cX11_isSign 17 = .ok (.iload_n 1, 1) := by decide +kernel
theorem dX11_isSign_18 : decode cX11_isSign 18 = .ok (.if_icmp .ne 7, 3) := by decide +kernel
theorem dX11_isSign_21 : decode cX11_isSign 21 = .ok (.iconst 1, 1) := by decide +kernel
theorem dX11_isSign_22 : decode cX11_isSign 22 = .ok (.goto 4, 3) := by decide +kernel
theorem dX11_isSign_25 : decode cX11_isSign 25 = .ok (.iconst 0, 1) := by decide +kernel
theorem dX11_isSign_26 : decode cX11_isSign 26 = .ok (.ireturn, 1) := by decide +kernel
theorem dX11_fails_0 : decode cX11_fails 0 = .ok (.aload_n 0, 1) := by decide +kernel
theorem dX11_fails_1 : decode cX11_fails 1 = .ok (.iload_n 1, 1) := by decide +kernel
theorem dX11_fails_2 : decode cX11_fails 2 = .ok (.bipush 16, 2) := by decide +kernel
theorem dX11_fails_4 : decode cX11_fails 4 = .ok (.aload_n 0, 1) := by decide +kernel
theorem dX11_fails_5 : decode cX11_fails 5 = .ok (.getfield 167, 3) := by decide +kernel
theorem dX11_fails_8 : decode cX11_fails 8 = .ok (.imul, 1) := by decide +kernel
theorem dX11_fails_9 : decode cX11_fails 9 = .ok (.iadd, 1) := by decide +kernel
theorem dX11_fails_10 : decode cX11_fails 10 = .ok (.putfield 188, 3) := by decide +kernel
theorem dX11_fails_13 : decode cX11_fails 13 = .ok (.iconst 0, 1) := by decide +kernel
theorem dX11_fails_14 : decode cX11_fails 14 = .ok (.ireturn, 1) := by decide +kernel
theorem dX11_puts_0 : decode cX11_puts 0 = .ok (.aload_n 0, 1) := by decide +kernel
theorem dX11_puts_1 : decode cX11_puts 1 = .ok (.getfield 31, 3) := by decide +kernel
theorem dX11_puts_4 : decode cX11_puts 4 = .ok (.aload_n 0, 1) := by decide +kernel
theorem dX11_puts_5 : decode cX11_puts 5 = .ok (.getfield 191, 3) := by decide +kernel
theorem dX11_puts_8 : decode cX11_puts 8 = .ok (.iload_n 1, 1) := by decide +kernel
theorem dX11_puts_9 : decode cX11_puts 9 = .ok (.iastore, 1) := by decide +kernel
theorem dX11_puts_10 : decode cX11_puts 10 = .ok (.aload_n 0, 1) := by decide +kernel
theorem dX11_puts_11 : decode cX11_puts 11 = .ok (.dup, 1) := by decide +kernel
theorem dX11_puts_12 : decode cX11_puts 12 = .ok (.getfield 191, 3) := by decide +kernel
theorem dX11_puts_15 : decode cX11_puts 15 = .ok (.iconst 1, 1) := by decide +kernel
theorem dX11_puts_16 : decode cX11_puts 16 = .ok (.iadd, 1) := by decide +kernel
theorem dX11_puts_17 : decode cX11_puts 17 = .ok (.putfield 191, 3) := by decide +kernel
theorem dX11_puts_20 : decode cX11_puts 20 = .ok (.return_, 1) := by decide +kernel
theorem dX11_fact_0 : decode cX11_fact 0 = .ok (.aload_n 0, 1) := by decide +kernel
theorem dX11_fact_1 : decode cX11_fact 1 = .ok (.getfield 177, 3) := by decide +kernel
theorem dX11_fact_4 : decode cX11_fact 4 = .ok (.iconst 1, 1) := by decide +kernel
theorem dX11_fact_5 : decode cX11_fact 5 = .ok (.if_icmp .eq 5, 3) := by decide +kernel
theorem dX11_fact_8 : decode cX11_fact 8 = .ok (.iconst 0, 1) := by decide +kernel
theorem dX11_fact_9 : decode cX11_fact 9 = .ok (.ireturn, 1) := by decide +kernel
theorem dX11_fact_10 : decode cX11_fact 10 = .ok (.aload_n 0, 1) := by decide +kernel
theorem dX11_fact_11 : decode cX11_fact 11 = .ok (.getfield 170, 3) := by decide +kernel
theorem dX11_fact_14 : decode cX11_fact 14 = .ok (.ldc2_w 194, 3) := by decide +kernel
theorem dX11_fact_17 : decode cX11_fact 17 = .ok (.lcmp, 1) := by decide +kernel
theorem dX11_fact_18 : decode cX11_fact 18 = .ok (.ifCond .ne 5, 3) := by decide +kernel
theorem dX11_fact_21 : decode cX11_fact 21 = .ok (.iconst 1, 1) := by decide +kernel
theorem dX11_fact_22 : decode cX11_fact 22 = .ok (.ireturn, 1) := by decide +kernel
theorem dX11_fact_23 : decode cX11_fact 23 = .ok (.aload_n 0, 1) := by decide +kernel
theorem dX11_fact_24 : decode cX11_fact 24 = .ok (.getfield 170, 3) := by decide +kernel
theorem dX11_fact_27 : decode cX11_fact 27 = .ok (.ldc2_w 196, 3) := by decide +kernel
theorem dX11_fact_30 : decode cX11_fact 30 = .ok (.lcmp, 1) := by decide +kernel
theorem dX11_fact_31 : decode cX11_fact 31 = .ok (.ifCond .ne 5, 3) := by decide +kernel
theorem dX11_fact_34 : decode cX11_fact 34 = .ok (.iconst 2, 1) := by decide +kernel
theorem dX11_fact_35 : decode cX11_fact 35 = .ok (.ireturn, 1) := by decide +kernel
theorem dX11_fact_36 : decode cX11_fact 36 = .ok (.aload_n 0, 1) := by decide +kernel
theorem dX11_fact_37 : decode cX11_fact 37 = .ok (.getfield 170, 3) := by decide +kernel
theorem dX11_fact_40 : decode cX11_fact 40 = .ok (.ldc2_w 198, 3) := by decide +kernel
theorem dX11_fact_43 : decode cX11_fact 43 = .ok (.lcmp, 1) := by decide +kernel
theorem dX11_fact_44 : decode cX11_fact 44 = .ok (.ifCond .ne 7, 3) := by decide +kernel
theorem dX11_fact_47 : decode cX11_fact 47 = .ok (.iconst 3, 1) := by decide +kernel
theorem dX11_fact_48 : decode cX11_fact 48 = .ok (.goto 19, 3) := by decide +kernel
theorem dX11_fact_51 : decode cX11_fact 51 = .ok (.aload_n 0, 1) := by decide +kernel
theorem dX11_fact_52 : decode cX11_fact 52 = .ok (.getfield 170, 3) := by decide +kernel
theorem dX11_fact_55 : decode cX11_fact 55 = .ok (.ldc2_w 200, 3) := by decide +kernel
theorem dX11_fact_58 : decode cX11_fact 58 = .ok (.lcmp, 1) := by decide +kernel
theorem dX11_fact_59 : decode cX11_fact 59 = .ok (.ifCond .ne 7, 3) := by decide +kernel
theorem dX11_fact_62 : decode cX11_fact 62 = .ok (.iconst 4, 1) := by decide +kernel
theorem dX11_fact_63 : decode cX11_fact 63 = .ok (.goto 4, 3) := by decide +kernel
theorem dX11_fact_66 : decode cX11_fact 66 = .ok (.iconst 0, 1) := by decide +kernel
theorem dX11_fact_67 : decode cX11_fact 67 = .ok (.ireturn, 1) := by decide +kernel
theorem dX11_reads_0 : decode cX11_reads 0 = .ok (.iconst 0, 1) := by decide +kernel
theorem dX11_reads_1 : decode cX11_reads 1 = .ok (.istore_n 1, 1) := by decide +kernel
theorem dX11_reads_2 : decode cX11_reads 2 = .ok (.iconst 1, 1) := by decide +kernel
theorem dX11_reads_3 : decode cX11_reads 3 = .ok (.istore_n 2, 1) := by decide +kernel
theorem dX11_reads_4 : decode cX11_reads 4 = .ok (.aload_n 0, 1) := by decide +kernel
theorem dX11_reads_5 : decode cX11_reads 5 = .ok (.getfield 37, 3) := by decide +kernel
theorem dX11_reads_8 : decode cX11_reads 8 = .ok (.iconst 0, 1) := by decide +kernel
theorem dX11_reads_9 : decode cX11_reads 9 = .ok (.iconst 0, 1) := by decide +kernel
theorem dX11_reads_10 : decode cX11_reads 10 = .ok (.bastore, 1) := by decide +kernel
theorem dX11_reads_11 : decode cX11_reads 11 = .ok (.iload_n 2, 1) := by decide +kernel
theorem dX11_reads_12 : decode cX11_reads 12 = .ok (.ifCond .eq 167, 3) := by decide +kernel
theorem dX11_reads_15 : decode cX11_reads 15 = .ok (.aload_n 0, 1) := by decide +kernel
theorem dX11_reads_16 : decode cX11_reads 16 = .ok (.invokevirtual 202, 3) := by decide +kernel
theorem dX11_reads_19 : decode cX11_reads 19 = .ok (.istore_n 3, 1) := by decide +kernel
theorem dX11_reads_20 : decode cX11_reads 20 = .ok (.aload_n 0, 1) := by decide +kernel
theorem dX11_reads_21 : decode cX11_reads 21 = .ok (.ldc2_w 206, 3) := by decide +kernel
theorem dX11_reads_24 : decode cX11_reads 24 = .ok (.invokevirtual 208, 3) := by decide +kernel
theorem dX11_reads_27 : decode cX11_reads 27 = .ok (.istore 4, 2) := by decide +kernel
theorem dX11_reads_29 : decode cX11_reads 29 = .ok (.aload_n 0, 1) := by decide +kernel
theorem dX11_reads_30 : decode cX11_reads 30 = .ok (.bipush 40, 2) := by decide +kernel
theorem dX11_reads_32 : decode cX11_reads 32 = .ok (.invokevirtual 212, 3) := by decide +kernel
theorem dX11_reads_35 : decode cX11_reads 35 = .ok (.istore 5, 2) := by decide +kernel
theorem dX11_reads_37 : decode cX11_reads 37 = .ok (.iload_n 3, 1) := by decide +kernel
theorem dX11_reads_38 : decode cX11_reads 38 = .ok (.ifCond .ne 27, 3) := by decide +kernel
theorem dX11_reads_41 : decode cX11_reads 41 = .ok (.iload 4, 2) := by decide +kernel
theorem dX11_reads_43 : decode cX11_reads 43 = .ok (.ifCond .ne 22, 3) := by decide +kernel
theorem dX11_reads_46 : decode cX11_reads 46 = .ok (.iload 5, 2) := by decide +kernel
theorem dX11_reads_48 : decode cX11_reads 48 = .ok (.ifCond .ne 17, 3) := by decide +kernel
theorem dX11_reads_51 : decode cX11_reads 51 = .ok (.aload_n 0, 1) := by decide +kernel
theorem dX11_reads_52 : decode cX11_reads 52 = .ok (.getfield 177, 3) := by decide +kernel
theorem dX11_reads_55 : decode cX11_reads 55 = .ok (.iconst 2, 1) := by decide +kernel
theorem dX11_reads_56 : decode cX11_reads 56 = .ok (.if_icmp .eq 9, 3) := by decide +kernel
theorem dX11_reads_59 : decode cX11_reads 59 = .ok (.aload_n 0, 1) := by decide +kernel
theorem dX11_reads_60 : decode cX11_reads 60 = .ok (.iconst 1, 1) := by decide +kernel
theorem dX11_reads_61 : decode cX11_reads 61 = .ok (.invokevirtual 216, 3) := by decide +kernel
theorem dX11_reads_64 : decode cX11_reads 64 = .ok (.ireturn, 1) := by decide +kernel
theorem dX11_reads_65 : decode cX11_reads 65 = .ok (.iload_n 1, 1) := by decide +kernel
theorem dX11_reads_66 : decode cX11_reads 66 = .ok (.iconst 5, 1) := by decide +kernel
theorem dX11_reads_67 : decode cX11_reads 67 = .ok (.if_icmp .ne 9, 3) := by decide +kernel
theorem dX11_reads_70 : decode cX11_reads 70 = .ok (.aload_n 0, 1) := by decide +kernel
theorem dX11_reads_71 : decode cX11_reads 71 = .ok (.iconst 5, 1) := by decide +kernel
theorem dX11_reads_72 : decode cX11_reads 72 = .ok (.invokevirtual 216, 3) := by decide +kernel
theorem dX11_reads_75 : decode cX11_reads 75 = .ok (.ireturn, 1) := by decide +kernel
theorem dX11_reads_76 : decode cX11_reads 76 = .ok (.iload 4, 2) := by decide +kernel
theorem dX11_reads_78 : decode cX11_reads 78 = .ok (.ifCond .ne 8, 3) := by decide +kernel
theorem dX11_reads_81 : decode cX11_reads 81 = .ok (.iload 5, 2) := by decide +kernel
theorem dX11_reads_83 : decode cX11_reads 83 = .ok (.ifCond .eq 48, 3) := by decide +kernel
theorem dX11_reads_86 : decode cX11_reads 86 = .ok (.aload_n 0, 1) := by decide +kernel
theorem dX11_reads_87 : decode cX11_reads 87 = .ok (.iload 4, 2) := by decide +kernel
theorem dX11_reads_89 : decode cX11_reads 89 = .ok (.ifCond .eq 8, 3) := by decide +kernel
theorem dX11_reads_92 : decode cX11_reads 92 = .ok (.bipush 30, 2) := by decide +kernel
theorem dX11_reads_94 : decode cX11_reads 94 = .ok (.goto 5, 3) := by decide +kernel
theorem dX11_reads_97 : decode cX11_reads 97 = .ok (.bipush 28, 2) := by decide +kernel
theorem dX11_reads_99 : decode cX11_reads 99 = .ok (.invokevirtual 219, 3) := by decide +kernel
theorem dX11_reads_102 : decode cX11_reads 102 = .ok (.iinc 1 1, 3) := by decide +kernel
theorem dX11_reads_105 : decode cX11_reads 105 = .ok (.aload_n 0, 1) := by decide +kernel
theorem dX11_reads_106 : decode cX11_reads 106 = .ok (.getfield 34, 3) := by decide +kernel
theorem dX11_reads_109 : decode cX11_reads 109 = .ok (.iload_n 1, 1) := by decide +kernel
theorem dX11_reads_110 : decode cX11_reads 110 = .ok (.iload 4, 2) := by decide +kernel
theorem dX11_reads_112 : decode cX11_reads 112 = .ok (.ifCond .eq 7, 3) := by decide +kernel
theorem dX11_reads_115 : decode cX11_reads 115 = .ok (.iconst 1, 1) := by decide +kernel
theorem dX11_reads_116 : decode cX11_reads 116 = .ok (.goto 4, 3) := by decide +kernel
theorem dX11_reads_119 : decode cX11_reads 119 = .ok (.iconst 2, 1) := by decide +kernel
theorem dX11_reads_120 : decode cX11_reads 120 = .ok (.iastore, 1) := by decide +kernel
theorem dX11_reads_121 : decode cX11_reads 121 = .ok (.aload_n 0, 1) := by decide +kernel
theorem dX11_reads_122 : decode cX11_reads 122 = .ok (.getfield 37, 3) := by decide +kernel
theorem dX11_reads_125 : decode cX11_reads 125 = .ok (.iload_n 1, 1) := by decide +kernel
theorem dX11_reads_126 : decode cX11_reads 126 = .ok (.iconst 0, 1) := by decide +kernel
theorem dX11_reads_127 : decode cX11_reads 127 = .ok (.bastore, 1) := by decide +kernel
theorem dX11_reads_128 : decode cX11_reads 128 = .ok (.goto 44, 3) := by decide +kernel
theorem dX11_reads_131 : decode cX11_reads 131 = .ok (.aload_n 0, 1) := by decide +kernel
theorem dX11_reads_132 : decode cX11_reads 132 = .ok (.iload_n 3, 1) := by decide +kernel
theorem dX11_reads_133 : decode cX11_reads 133 = .ok (.ifCond .le 7, 3) := by decide +kernel
theorem dX11_reads_136 : decode cX11_reads 136 = .ok (.iload_n 3, 1) := by decide +kernel
theorem dX11_reads_137 : decode cX11_reads 137 = .ok (.goto 10, 3) := by decide +kernel
theorem dX11_reads_140 : decode cX11_reads 140 = .ok (.bipush 100, 2) := by decide +kernel
theorem dX11_reads_142 : decode cX11_reads 142 = .ok (.aload_n 0, 1) := by decide +kernel
theorem dX11_reads_143 : decode cX11_reads 143 = .ok (.getfield 174, 3) := by decide +kernel
theorem dX11_reads_146 : decode cX11_reads 146 = .ok (.iadd, 1) := by decide +kernel
theorem dX11_reads_147 : decode cX11_reads 147 = .ok (.invokevirtual 219, 3) := by decide +kernel
theorem dX11_reads_150 : decode cX11_reads 150 = .ok (.iconst 0, 1) := by decide +kernel
theorem dX11_reads_151 : decode cX11_reads 151 = .ok (.istore_n 2, 1) := by decide +kernel
theorem dX11_reads_152 : decode cX11_reads 152 = .ok (.iload_n 1, 1) := by decide +kernel
theorem dX11_reads_153 : decode cX11_reads 153 = .ok (.ifCond .le 19, 3) := by decide +kernel
theorem dX11_reads_156 : decode cX11_reads 156 = .ok (.aload_n 0, 1) := by decide +kernel
theorem dX11_reads_157 : decode cX11_reads 157 = .ok (.getfield 34, 3) := by decide +kernel
theorem dX11_reads_160 : decode cX11_reads 160 = .ok (.iload_n 1, 1) := by decide +kernel
theorem dX11_reads_161 : decode cX11_reads 161 = .ok (.iaload, 1) := by decide +kernel
theorem dX11_reads_162 : decode cX11_reads 162 = .ok (.iconst 1, 1) := by decide +kernel
theorem dX11_reads_163 : decode cX11_reads 163 = .ok (.if_icmp .ne 9, 3) := by decide +kernel
theorem dX11_reads_166 : decode cX11_reads 166 = .ok (.iinc 1 (-1), 3) := by decide +kernel
theorem dX11_reads_169 : decode cX11_reads 169 = .ok (.goto (-17), 3) := by decide +kernel
theorem dX11_reads_172 : decode cX11_reads 172 = .ok (.aload_n 0, 1) := by decide +kernel
theorem dX11_reads_173 : decode cX11_reads 173 = .ok (.invokevirtual 223, 3) := by decide +kernel
theorem dX11_reads_176 : decode cX11_reads 176 = .ok (.goto (-165), 3) := by decide +kernel
theorem dX11_reads_179 : decode cX11_reads 179 = .ok (.aload_n 0, 1) := by decide +kernel
theorem dX11_reads_180 : decode cX11_reads 180 = .ok (.bipush 43, 2) := by decide +kernel
theorem dX11_reads_182 : decode cX11_reads 182 = .ok (.invokevirtual 212, 3) := by decide +kernel
theorem dX11_reads_185 : decode cX11_reads 185 = .ok (.ifCond .ne 21, 3) := by decide +kernel
theorem dX11_reads_188 : decode cX11_reads 188 = .ok (.aload_n 0, 1) := by decide +kernel
theorem dX11_reads_189 : decode cX11_reads 189 = .ok (.bipush 45, 2) := by decide +kernel
theorem dX11_reads_191 : decode cX11_reads 191 = .ok (.invokevirtual 212, 3) := by decide +kernel
theorem dX11_reads_194 : decode cX11_reads 194 = .ok (.ifCond .ne 12, 3) := by decide +kernel
theorem dX11_reads_197 : decode cX11_reads 197 = .ok (.aload_n 0, 1) := by decide +kernel
theorem dX11_reads_198 : decode cX11_reads 198 = .ok (.bipush 42, 2) := by decide +kernel
theorem dX11_reads_200 : decode cX11_reads 200 = .ok (.invokevirtual 212, 3) := by decide +kernel
theorem dX11_reads_203 : decode cX11_reads 203 = .ok (.ifCond .eq 42, 3) := by decide +kernel
theorem dX11_reads_206 : decode cX11_reads 206 = .ok (.aload_n 0, 1) := by decide +kernel
theorem dX11_reads_207 : decode cX11_reads 207 = .ok (.aload_n 0, 1) := by decide +kernel
theorem dX11_reads_208 : decode cX11_reads 208 = .ok (.bipush 43, 2) := by decide +kernel
theorem dX11_reads_210 : decode cX11_reads 210 = .ok (.invokevirtual 212, 3) := by decide +kernel
theorem dX11_reads_213 : decode cX11_reads 213 = .ok (.ifCond .eq 8, 3) := by decide +kernel
theorem dX11_reads_216 : decode cX11_reads 216 = .ok (.bipush 20, 2) := by decide +kernel
theorem dX11_reads_218 : decode cX11_reads 218 = .ok (.goto 19, 3) := by decide +kernel
theorem dX11_reads_221 : decode cX11_reads 221 = .ok (.aload_n 0, 1) := by decide +kernel
theorem dX11_reads_222 : decode cX11_reads 222 = .ok (.bipush 45, 2) := by decide +kernel
theorem dX11_reads_224 : decode cX11_reads 224 = .ok (.invokevirtual 212, 3) := by decide +kernel
theorem dX11_reads_227 : decode cX11_reads 227 = .ok (.ifCond .eq 8, 3) := by decide +kernel
theorem dX11_reads_230 : decode cX11_reads 230 = .ok (.bipush 21, 2) := by decide +kernel
theorem dX11_reads_232 : decode cX11_reads 232 = .ok (.goto 5, 3) := by decide +kernel
theorem dX11_reads_235 : decode cX11_reads 235 = .ok (.bipush 22, 2) := by decide +kernel
theorem dX11_reads_237 : decode cX11_reads 237 = .ok (.invokevirtual 219, 3) := by decide +kernel
theorem dX11_reads_240 : decode cX11_reads 240 = .ok (.iconst 1, 1) := by decide +kernel
theorem dX11_reads_241 : decode cX11_reads 241 = .ok (.istore_n 2, 1) := by decide +kernel
theorem dX11_reads_242 : decode cX11_reads 242 = .ok (.goto 182, 3) := by decide +kernel
theorem dX11_reads_245 : decode cX11_reads 245 = .ok (.aload_n 0, 1) := by decide +kernel
theorem dX11_reads_246 : decode cX11_reads 246 = .ok (.bipush 60, 2) := by decide +kernel
theorem dX11_reads_248 : decode cX11_reads 248 = .ok (.invokevirtual 212, 3) := by decide +kernel
theorem dX11_reads_251 : decode cX11_reads 251 = .ok (.ifCond .ne 12, 3) := by decide +kernel
theorem dX11_reads_254 : decode cX11_reads 254 = .ok (.aload_n 0, 1) := by decide +kernel
theorem dX11_reads_255 : decode cX11_reads 255 = .ok (.bipush 61, 2) := by decide +kernel
theorem dX11_reads_257 : decode cX11_reads 257 = .ok (.invokevirtual 212, 3) := by decide +kernel
theorem dX11_reads_260 : decode cX11_reads 260 = .ok (.ifCond .eq 44, 3) := by decide +kernel
theorem dX11_reads_263 : decode cX11_reads 263 = .ok (.aload_n 0, 1) := by decide +kernel
theorem dX11_reads_264 : decode cX11_reads 264 = .ok (.getfield 37, 3) := by decide +kernel
theorem dX11_reads_267 : decode cX11_reads 267 = .ok (.iload_n 1, 1) := by decide +kernel
theorem dX11_reads_268 : decode cX11_reads 268 = .ok (.baload, 1) := by decide +kernel
theorem dX11_reads_269 : decode cX11_reads 269 = .ok (.ifCond .ne 35, 3) := by decide +kernel
theorem dX11_reads_272 : decode cX11_reads 272 = .ok (.aload_n 0, 1) := by decide +kernel
theorem dX11_reads_273 : decode cX11_reads 273 = .ok (.aload_n 0, 1) := by decide +kernel
theorem dX11_reads_274 : decode cX11_reads 274 = .ok (.bipush 60, 2) := by decide +kernel
theorem dX11_reads_276 : decode cX11_reads 276 = .ok (.invokevirtual 212, 3) := by decide +kernel
theorem dX11_reads_279 : decode cX11_reads 279 = .ok (.ifCond .eq 8, 3) := by decide +kernel
theorem dX11_reads_282 : decode cX11_reads 282 = .ok (.bipush 24, 2) := by decide +kernel
theorem dX11_reads_284 : decode cX11_reads 284 = .ok (.goto 5, 3) := by decide +kernel
theorem dX11_reads_287 : decode cX11_reads 287 = .ok (.bipush 25, 2) := by decide +kernel
theorem dX11_reads_289 : decode cX11_reads 289 = .ok (.invokevirtual 219, 3) := by decide +kernel
theorem dX11_reads_292 : decode cX11_reads 292 = .ok (.aload_n 0, 1) := by decide +kernel
theorem dX11_reads_293 : decode cX11_reads 293 = .ok (.getfield 37, 3) := by decide +kernel
theorem dX11_reads_296 : decode cX11_reads 296 = .ok (.iload_n 1, 1) := by decide +kernel
theorem dX11_reads_297 : decode cX11_reads 297 = .ok (.iconst 1, 1) := by decide +kernel
theorem dX11_reads_298 : decode cX11_reads 298 = .ok (.bastore, 1) := by decide +kernel
theorem dX11_reads_299 : decode cX11_reads 299 = .ok (.iconst 1, 1) := by decide +kernel
theorem dX11_reads_300 : decode cX11_reads 300 = .ok (.istore_n 2, 1) := by decide +kernel
theorem dX11_reads_301 : decode cX11_reads 301 = .ok (.goto 123, 3) := by decide +kernel
theorem dX11_reads_304 : decode cX11_reads 304 = .ok (.aload_n 0, 1) := by decide +kernel
theorem dX11_reads_305 : decode cX11_reads 305 = .ok (.ldc2_w 226, 3) := by decide +kernel
theorem dX11_reads_308 : decode cX11_reads 308 = .ok (.invokevirtual 208, 3) := by decide +kernel
theorem dX11_reads_311 : decode cX11_reads 311 = .ok (.ifCond .ne 13, 3) := by decide +kernel
theorem dX11_reads_314 : decode cX11_reads 314 = .ok (.aload_n 0, 1) := by decide +kernel
theorem dX11_reads_315 : decode cX11_reads 315 = .ok (.ldc2_w 228, 3) := by decide +kernel
theorem dX11_reads_318 : decode cX11_reads 318 = .ok (.invokevirtual 208, 3) := by decide +kernel
theorem dX11_reads_321 : decode cX11_reads 321 = .ok (.ifCond .eq 36, 3) := by decide +kernel
theorem dX11_reads_324 : decode cX11_reads 324 = .ok (.aload_n 0, 1) := by decide +kernel
theorem dX11_reads_325 : decode cX11_reads 325 = .ok (.aload_n 0, 1) := by decide +kernel
theorem dX11_reads_326 : decode cX11_reads 326 = .ok (.ldc2_w 226, 3) := by decide +kernel
theorem dX11_reads_329 : decode cX11_reads 329 = .ok (.invokevirtual 208, 3) := by decide +kernel
theorem dX11_reads_332 : decode cX11_reads 332 = .ok (.ifCond .eq 8, 3) := by decide +kernel
theorem dX11_reads_335 : decode cX11_reads 335 = .ok (.bipush 26, 2) := by decide +kernel
theorem dX11_reads_337 : decode cX11_reads 337 = .ok (.goto 5, 3) := by decide +kernel
theorem dX11_reads_340 : decode cX11_reads 340 = .ok (.bipush 27, 2) := by decide +kernel
theorem dX11_reads_342 : decode cX11_reads 342 = .ok (.invokevirtual 219, 3) := by decide +kernel
theorem dX11_reads_345 : decode cX11_reads 345 = .ok (.aload_n 0, 1) := by decide +kernel
theorem dX11_reads_346 : decode cX11_reads 346 = .ok (.getfield 37, 3) := by decide +kernel
theorem dX11_reads_349 : decode cX11_reads 349 = .ok (.iload_n 1, 1) := by decide +kernel
theorem dX11_reads_350 : decode cX11_reads 350 = .ok (.iconst 0, 1) := by decide +kernel
theorem dX11_reads_351 : decode cX11_reads 351 = .ok (.bastore, 1) := by decide +kernel
theorem dX11_reads_352 : decode cX11_reads 352 = .ok (.iconst 1, 1) := by decide +kernel
theorem dX11_reads_353 : decode cX11_reads 353 = .ok (.istore_n 2, 1) := by decide +kernel
theorem dX11_reads_354 : decode cX11_reads 354 = .ok (.goto 70, 3) := by decide +kernel
theorem dX11_reads_357 : decode cX11_reads 357 = .ok (.aload_n 0, 1) := by decide +kernel
theorem dX11_reads_358 : decode cX11_reads 358 = .ok (.bipush 41, 2) := by decide +kernel
theorem dX11_reads_360 : decode cX11_reads 360 = .ok (.invokevirtual 212, 3) := by decide +kernel
theorem dX11_reads_363 : decode cX11_reads 363 = .ok (.ifCond .eq 36, 3) := by decide +kernel
theorem dX11_reads_366 : decode cX11_reads 366 = .ok (.iload_n 1, 1) := by decide +kernel
theorem dX11_reads_367 : decode cX11_reads 367 = .ok (.ifCond .le 32, 3) := by decide +kernel
theorem dX11_reads_370 : decode cX11_reads 370 = .ok (.aload_n 0, 1) := by decide +kernel
theorem dX11_reads_371 : decode cX11_reads 371 = .ok (.bipush 29, 2) := by decide +kernel
theorem dX11_reads_373 : decode cX11_reads 373 = .ok (.invokevirtual 219, 3) := by decide +kernel
theorem dX11_reads_376 : decode cX11_reads 376 = .ok (.iinc 1 (-1), 3) := by decide +kernel
theorem dX11_reads_379 : decode cX11_reads 379 = .ok (.iload_n 1, 1) := by decide +kernel
theorem dX11_reads_380 : decode cX11_reads 380 = .ok (.ifCond .le 44, 3) := by decide +kernel
theorem dX11_reads_383 : decode cX11_reads 383 = .ok (.aload_n 0, 1) := by decide +kernel
theorem dX11_reads_384 : decode cX11_reads 384 = .ok (.getfield 34, 3) := by decide +kernel
theorem dX11_reads_387 : decode cX11_reads 387 = .ok (.iload_n 1, 1) := by decide +kernel
theorem dX11_reads_388 : decode cX11_reads 388 = .ok (.iaload, 1) := by decide +kernel
theorem dX11_reads_389 : decode cX11_reads 389 = .ok (.iconst 1, 1) := by decide +kernel
theorem dX11_reads_390 : decode cX11_reads 390 = .ok (.if_icmp .ne 34, 3) := by decide +kernel
theorem dX11_reads_393 : decode cX11_reads 393 = .ok (.iinc 1 (-1), 3) := by decide +kernel
theorem dX11_reads_396 : decode cX11_reads 396 = .ok (.goto (-17), 3) := by decide +kernel
theorem dX11_reads_399 : decode cX11_reads 399 = .ok (.iload_n 1, 1) := by decide +kernel
theorem dX11_reads_400 : decode cX11_reads 400 = .ok (.ifCond .ne 18, 3) := by decide +kernel
theorem dX11_reads_403 : decode cX11_reads 403 = .ok (.aload_n 0, 1) := by decide +kernel
theorem dX11_reads_404 : decode cX11_reads 404 = .ok (.bipush 59, 2) := by decide +kernel
theorem dX11_reads_406 : decode cX11_reads 406 = .ok (.invokevirtual 212, 3) := by decide +kernel
theorem dX11_reads_409 : decode cX11_reads 409 = .ok (.ifCond .eq 9, 3) := by decide +kernel
theorem dX11_reads_412 : decode cX11_reads 412 = .ok (.aload_n 0, 1) := by decide +kernel
theorem dX11_reads_413 : decode cX11_reads 413 = .ok (.invokevirtual 223, 3) := by decide +kernel
theorem dX11_reads_416 : decode cX11_reads 416 = .ok (.iconst 1, 1) := by decide +kernel
theorem dX11_reads_417 : decode cX11_reads 417 = .ok (.ireturn, 1) := by decide +kernel
theorem dX11_reads_418 : decode cX11_reads 418 = .ok (.aload_n 0, 1) := by decide +kernel
theorem dX11_reads_419 : decode cX11_reads 419 = .ok (.iconst 1, 1) := by decide +kernel
theorem dX11_reads_420 : decode cX11_reads 420 = .ok (.invokevirtual 216, 3) := by decide +kernel
theorem dX11_reads_423 : decode cX11_reads 423 = .ok (.ireturn, 1) := by decide +kernel
theorem dX11_reads_424 : decode cX11_reads 424 = .ok (.aload_n 0, 1) := by decide +kernel
theorem dX11_reads_425 : decode cX11_reads 425 = .ok (.invokevirtual 223, 3) := by decide +kernel
theorem dX11_reads_428 : decode cX11_reads 428 = .ok (.goto (-417), 3) := by decide +kernel
theorem dX11_opens_0 : decode cX11_opens 0 = .ok (.aload_n 0, 1) := by decide +kernel
theorem dX11_opens_1 : decode cX11_opens 1 = .ok (.getfield 44, 3) := by decide +kernel
theorem dX11_opens_4 : decode cX11_opens 4 = .ok (.iload_n 1, 1) := by decide +kernel
theorem dX11_opens_5 : decode cX11_opens 5 = .ok (.iconst 0, 1) := by decide +kernel
theorem dX11_opens_6 : decode cX11_opens 6 = .ok (.iastore, 1) := by decide +kernel
theorem dX11_opens_7 : decode cX11_opens 7 = .ok (.aload_n 0, 1) := by decide +kernel
theorem dX11_opens_8 : decode cX11_opens 8 = .ok (.getfield 50, 3) := by decide +kernel
theorem dX11_opens_11 : decode cX11_opens 11 = .ok (.iload_n 1, 1) := by decide +kernel
theorem dX11_opens_12 : decode cX11_opens 12 = .ok (.iconst 0, 1) := by decide +kernel
theorem dX11_opens_13 : decode cX11_opens 13 = .ok (.iastore, 1) := by decide +kernel
theorem dX11_opens_14 : decode cX11_opens 14 = .ok (.aload_n 0, 1) := by decide +kernel
theorem dX11_opens_15 : decode cX11_opens 15 = .ok (.getfield 53, 3) := by decide +kernel
theorem dX11_opens_18 : decode cX11_opens 18 = .ok (.iload_n 1, 1) := by decide +kernel
theorem dX11_opens_19 : decode cX11_opens 19 = .ok (.iconst 0, 1) := by decide +kernel
theorem dX11_opens_20 : decode cX11_opens 20 = .ok (.iastore, 1) := by decide +kernel
theorem dX11_opens_21 : decode cX11_opens 21 = .ok (.aload_n 0, 1) := by decide +kernel
theorem dX11_opens_22 : decode cX11_opens 22 = .ok (.getfield 56, 3) := by decide +kernel
theorem dX11_opens_25 : decode cX11_opens 25 = .ok (.iload_n 1, 1) := by decide +kernel
theorem dX11_opens_26 : decode cX11_opens 26 = .ok (.bipush 20, 2) := by decide +kernel
theorem dX11_opens_28 : decode cX11_opens 28 = .ok (.iastore, 1) := by decide +kernel
theorem dX11_opens_29 : decode cX11_opens 29 = .ok (.aload_n 0, 1) := by decide +kernel
theorem dX11_opens_30 : decode cX11_opens 30 = .ok (.getfield 62, 3) := by decide +kernel
theorem dX11_opens_33 : decode cX11_opens 33 = .ok (.iload_n 1, 1) := by decide +kernel
theorem dX11_opens_34 : decode cX11_opens 34 = .ok (.iconst 0, 1) := by decide +kernel
theorem dX11_opens_35 : decode cX11_opens 35 = .ok (.iastore, 1) := by decide +kernel
theorem dX11_opens_36 : decode cX11_opens 36 = .ok (.return_, 1) := by decide +kernel
theorem dX11_sums_0 : decode cX11_sums 0 = .ok (.aload_n 0, 1) := by decide +kernel
theorem dX11_sums_1 : decode cX11_sums 1 = .ok (.getfield 53, 3) := by decide +kernel
theorem dX11_sums_4 : decode cX11_sums 4 = .ok (.iload_n 1, 1) := by decide +kernel
theorem dX11_sums_5 : decode cX11_sums 5 = .ok (.aload_n 0, 1) := by decide +kernel
theorem dX11_sums_6 : decode cX11_sums 6 = .ok (.getfield 56, 3) := by decide +kernel
theorem dX11_sums_9 : decode cX11_sums 9 = .ok (.iload_n 1, 1) := by decide +kernel
theorem dX11_sums_10 : decode cX11_sums 10 = .ok (.iaload, 1) := by decide +kernel
theorem dX11_sums_11 : decode cX11_sums 11 = .ok (.bipush 21, 2) := by decide +kernel
theorem dX11_sums_13 : decode cX11_sums 13 = .ok (.if_icmp .ne 19, 3) := by decide +kernel
theorem dX11_sums_16 : decode cX11_sums 16 = .ok (.aload_n 0, 1) := by decide +kernel
theorem dX11_sums_17 : decode cX11_sums 17 = .ok (.getfield 53, 3) := by decide +kernel
theorem dX11_sums_20 : decode cX11_sums 20 = .ok (.iload_n 1, 1) := by decide +kernel
theorem dX11_sums_21 : decode cX11_sums 21 = .ok (.iaload, 1) := by decide +kernel
theorem dX11_sums_22 : decode cX11_sums 22 = .ok (.aload_n 0, 1) := by decide +kernel
theorem dX11_sums_23 : decode cX11_sums 23 = .ok (.getfield 59, 3) := by decide +kernel
theorem dX11_sums_26 : decode cX11_sums 26 = .ok (.iload_n 1, 1) := by decide +kernel
theorem dX11_sums_27 : decode cX11_sums 27 = .ok (.iaload, 1) := by decide +kernel
theorem dX11_sums_28 : decode cX11_sums 28 = .ok (.isub, 1) := by decide +kernel
theorem dX11_sums_29 : decode cX11_sums 29 = .ok (.goto 16, 3) := by decide +kernel
theorem dX11_sums_32 : decode cX11_sums 32 = .ok (.aload_n 0, 1) := by decide +kernel
theorem dX11_sums_33 : decode cX11_sums 33 = .ok (.getfield 53, 3) := by decide +kernel
theorem dX11_sums_36 : decode cX11_sums 36 = .ok (.iload_n 1, 1) := by decide +kernel
theorem dX11_sums_37 : decode cX11_sums 37 = .ok (.iaload, 1) := by decide +kernel
theorem dX11_sums_38 : decode cX11_sums 38 = .ok (.aload_n 0, 1) := by decide +kernel
theorem dX11_sums_39 : decode cX11_sums 39 = .ok (.getfield 59, 3) := by decide +kernel
theorem dX11_sums_42 : decode cX11_sums 42 = .ok (.iload_n 1, 1) := by decide +kernel
theorem dX11_sums_43 : decode cX11_sums 43 = .ok (.iaload, 1) := by decide +kernel
theorem dX11_sums_44 : decode cX11_sums 44 = .ok (.iadd, 1) := by decide +kernel
theorem dX11_sums_45 : decode cX11_sums 45 = .ok (.iastore, 1) := by decide +kernel
theorem dX11_sums_46 : decode cX11_sums 46 = .ok (.aload_n 0, 1) := by decide +kernel
theorem dX11_sums_47 : decode cX11_sums 47 = .ok (.getfield 62, 3) := by decide +kernel
theorem dX11_sums_50 : decode cX11_sums 50 = .ok (.iload_n 1, 1) := by decide +kernel
theorem dX11_sums_51 : decode cX11_sums 51 = .ok (.iconst 0, 1) := by decide +kernel
theorem dX11_sums_52 : decode cX11_sums 52 = .ok (.iastore, 1) := by decide +kernel
theorem dX11_sums_53 : decode cX11_sums 53 = .ok (.return_, 1) := by decide +kernel
theorem dX11_tests_0 : decode cX11_tests 0 = .ok (.aload_n 0, 1) := by decide +kernel
theorem dX11_tests_1 : decode cX11_tests 1 = .ok (.iload_n 1, 1) := by decide +kernel
theorem dX11_tests_2 : decode cX11_tests 2 = .ok (.invokevirtual 230, 3) := by decide +kernel
theorem dX11_tests_5 : decode cX11_tests 5 = .ok (.aload_n 0, 1) := by decide +kernel
theorem dX11_tests_6 : decode cX11_tests 6 = .ok (.getfield 53, 3) := by decide +kernel
theorem dX11_tests_9 : decode cX11_tests 9 = .ok (.iload_n 1, 1) := by decide +kernel
theorem dX11_tests_10 : decode cX11_tests 10 = .ok (.iaload, 1) := by decide +kernel
theorem dX11_tests_11 : decode cX11_tests 11 = .ok (.istore_n 2, 1) := by decide +kernel
theorem dX11_tests_12 : decode cX11_tests 12 = .ok (.aload_n 0, 1) := by decide +kernel
theorem dX11_tests_13 : decode cX11_tests 13 = .ok (.getfield 50, 3) := by decide +kernel
theorem dX11_tests_16 : decode cX11_tests 16 = .ok (.iload_n 1, 1) := by decide +kernel
theorem dX11_tests_17 : decode cX11_tests 17 = .ok (.iaload, 1) := by decide +kernel
theorem dX11_tests_18 : decode cX11_tests 18 = .ok (.bipush 24, 2) := by decide +kernel
theorem dX11_tests_20 : decode cX11_tests 20 = .ok (.if_icmp .ne 24, 3) := by decide +kernel
theorem dX11_tests_23 : decode cX11_tests 23 = .ok (.aload_n 0, 1) := by decide +kernel
theorem dX11_tests_24 : decode cX11_tests 24 = .ok (.getfield 47, 3) := by decide +kernel
theorem dX11_tests_27 : decode cX11_tests 27 = .ok (.iload_n 1, 1) := by decide +kernel
theorem dX11_tests_28 : decode cX11_tests 28 = .ok (.iaload, 1) := by decide +kernel
theorem dX11_tests_29 : decode cX11_tests 29 = .ok (.aload_n 0, 1) := by decide +kernel
theorem dX11_tests_30 : decode cX11_tests 30 = .ok (.getfield 53, 3) := by decide +kernel
theorem dX11_tests_33 : decode cX11_tests 33 = .ok (.iload_n 1, 1) := by decide +kernel
theorem dX11_tests_34 : decode cX11_tests 34 = .ok (.iaload, 1) := by decide +kernel
theorem dX11_tests_35 : decode cX11_tests 35 = .ok (.if_icmp .ge 7, 3) := by decide +kernel
theorem dX11_tests_38 : decode cX11_tests 38 = .ok (.iconst 1, 1) := by decide +kernel
theorem dX11_tests_39 : decode cX11_tests 39 = .ok (.goto 4, 3) := by decide +kernel
theorem dX11_tests_42 : decode cX11_tests 42 = .ok (.iconst 0, 1) := by decide +kernel
theorem dX11_tests_43 : decode cX11_tests 43 = .ok (.istore_n 2, 1) := by decide +kernel
theorem dX11_tests_44 : decode cX11_tests 44 = .ok (.aload_n 0, 1) := by decide +kernel
theorem dX11_tests_45 : decode cX11_tests 45 = .ok (.getfield 50, 3) := by decide +kernel
theorem dX11_tests_48 : decode cX11_tests 48 = .ok (.iload_n 1, 1) := by decide +kernel
theorem dX11_tests_49 : decode cX11_tests 49 = .ok (.iaload, 1) := by decide +kernel
theorem dX11_tests_50 : decode cX11_tests 50 = .ok (.bipush 25, 2) := by decide +kernel
theorem dX11_tests_52 : decode cX11_tests 52 = .ok (.if_icmp .ne 24, 3) := by decide +kernel
theorem dX11_tests_55 : decode cX11_tests 55 = .ok (.aload_n 0, 1) := by decide +kernel
theorem dX11_tests_56 : decode cX11_tests 56 = .ok (.getfield 47, 3) := by decide +kernel
theorem dX11_tests_59 : decode cX11_tests 59 = .ok (.iload_n 1, 1) := by decide +kernel
theorem dX11_tests_60 : decode cX11_tests 60 = .ok (.iaload, 1) := by decide +kernel
theorem dX11_tests_61 : decode cX11_tests 61 = .ok (.aload_n 0, 1) := by decide +kernel
theorem dX11_tests_62 : decode cX11_tests 62 = .ok (.getfield 53, 3) := by decide +kernel
theorem dX11_tests_65 : decode cX11_tests 65 = .ok (.iload_n 1, 1) := by decide +kernel
theorem dX11_tests_66 : decode cX11_tests 66 = .ok (.iaload, 1) := by decide +kernel
theorem dX11_tests_67 : decode cX11_tests 67 = .ok (.if_icmp .ne 7, 3) := by decide +kernel
theorem dX11_tests_70 : decode cX11_tests 70 = .ok (.iconst 1, 1) := by decide +kernel
theorem dX11_tests_71 : decode cX11_tests 71 = .ok (.goto 4, 3) := by decide +kernel
theorem dX11_tests_74 : decode cX11_tests 74 = .ok (.iconst 0, 1) := by decide +kernel
theorem dX11_tests_75 : decode cX11_tests 75 = .ok (.istore_n 2, 1) := by decide +kernel
theorem dX11_tests_76 : decode cX11_tests 76 = .ok (.aload_n 0, 1) := by decide +kernel
theorem dX11_tests_77 : decode cX11_tests 77 = .ok (.getfield 44, 3) := by decide +kernel
theorem dX11_tests_80 : decode cX11_tests 80 = .ok (.iload_n 1, 1) := by decide +kernel
theorem dX11_tests_81 : decode cX11_tests 81 = .ok (.iaload, 1) := by decide +kernel
theorem dX11_tests_82 : decode cX11_tests 82 = .ok (.bipush 26, 2) := by decide +kernel
theorem dX11_tests_84 : decode cX11_tests 84 = .ok (.if_icmp .ne 22, 3) := by decide +kernel
theorem dX11_tests_87 : decode cX11_tests 87 = .ok (.aload_n 0, 1) := by decide +kernel
theorem dX11_tests_88 : decode cX11_tests 88 = .ok (.getfield 41, 3) := by decide +kernel
theorem dX11_tests_91 : decode cX11_tests 91 = .ok (.iload_n 1, 1) := by decide +kernel
theorem dX11_tests_92 : decode cX11_tests 92 = .ok (.iaload, 1) := by decide +kernel
theorem dX11_tests_93 : decode cX11_tests 93 = .ok (.ifCond .eq 11, 3) := by decide +kernel
theorem dX11_tests_96 : decode cX11_tests 96 = .ok (.iload_n 2, 1) := by decide +kernel
theorem dX11_tests_97 : decode cX11_tests 97 = .ok (.ifCond .eq 7, 3) := by decide +kernel
theorem dX11_tests_100 : decode cX11_tests 100 = .ok (.iconst 1, 1) := by decide +kernel
theorem dX11_tests_101 : decode cX11_tests 101 = .ok (.goto 4, 3) := by decide +kernel
theorem dX11_tests_104 : decode cX11_tests 104 = .ok (.iconst 0, 1) := by decide +kernel
theorem dX11_tests_105 : decode cX11_tests 105 = .ok (.istore_n 2, 1) := by decide +kernel
theorem dX11_tests_106 : decode cX11_tests 106 = .ok (.aload_n 0, 1) := by decide +kernel
theorem dX11_tests_107 : decode cX11_tests 107 = .ok (.getfield 44, 3) := by decide +kernel
theorem dX11_tests_110 : decode cX11_tests 110 = .ok (.iload_n 1, 1) := by decide +kernel
theorem dX11_tests_111 : decode cX11_tests 111 = .ok (.iaload, 1) := by decide +kernel
theorem dX11_tests_112 : decode cX11_tests 112 = .ok (.bipush 27, 2) := by decide +kernel
theorem dX11_tests_114 : decode cX11_tests 114 = .ok (.if_icmp .ne 22, 3) := by decide +kernel
theorem dX11_tests_117 : decode cX11_tests 117 = .ok (.aload_n 0, 1) := by decide +kernel
theorem dX11_tests_118 : decode cX11_tests 118 = .ok (.getfield 41, 3) := by decide +kernel
theorem dX11_tests_121 : decode cX11_tests 121 = .ok (.iload_n 1, 1) := by decide +kernel
theorem dX11_tests_122 : decode cX11_tests 122 = .ok (.iaload, 1) := by decide +kernel
theorem dX11_tests_123 : decode cX11_tests 123 = .ok (.ifCond .ne 7, 3) := by decide +kernel
theorem dX11_tests_126 : decode cX11_tests 126 = .ok (.iload_n 2, 1) := by decide +kernel
theorem dX11_tests_127 : decode cX11_tests 127 = .ok (.ifCond .eq 7, 3) := by decide +kernel
theorem dX11_tests_130 : decode cX11_tests 130 = .ok (.iconst 1, 1) := by decide +kernel
theorem dX11_tests_131 : decode cX11_tests 131 = .ok (.goto 4, 3) := by decide +kernel
theorem dX11_tests_134 : decode cX11_tests 134 = .ok (.iconst 0, 1) := by decide +kernel
theorem dX11_tests_135 : decode cX11_tests 135 = .ok (.istore_n 2, 1) := by decide +kernel
theorem dX11_tests_136 : decode cX11_tests 136 = .ok (.aload_n 0, 1) := by decide +kernel
theorem dX11_tests_137 : decode cX11_tests 137 = .ok (.getfield 41, 3) := by decide +kernel
theorem dX11_tests_140 : decode cX11_tests 140 = .ok (.iload_n 1, 1) := by decide +kernel
theorem dX11_tests_141 : decode cX11_tests 141 = .ok (.iload_n 2, 1) := by decide +kernel
theorem dX11_tests_142 : decode cX11_tests 142 = .ok (.iastore, 1) := by decide +kernel
theorem dX11_tests_143 : decode cX11_tests 143 = .ok (.aload_n 0, 1) := by decide +kernel
theorem dX11_tests_144 : decode cX11_tests 144 = .ok (.getfield 50, 3) := by decide +kernel
theorem dX11_tests_147 : decode cX11_tests 147 = .ok (.iload_n 1, 1) := by decide +kernel
theorem dX11_tests_148 : decode cX11_tests 148 = .ok (.iconst 0, 1) := by decide +kernel
theorem dX11_tests_149 : decode cX11_tests 149 = .ok (.iastore, 1) := by decide +kernel
theorem dX11_tests_150 : decode cX11_tests 150 = .ok (.aload_n 0, 1) := by decide +kernel
theorem dX11_tests_151 : decode cX11_tests 151 = .ok (.getfield 53, 3) := by decide +kernel
theorem dX11_tests_154 : decode cX11_tests 154 = .ok (.iload_n 1, 1) := by decide +kernel
theorem dX11_tests_155 : decode cX11_tests 155 = .ok (.iconst 0, 1) := by decide +kernel
theorem dX11_tests_156 : decode cX11_tests 156 = .ok (.iastore, 1) := by decide +kernel
theorem dX11_tests_157 : decode cX11_tests 157 = .ok (.aload_n 0, 1) := by decide +kernel
theorem dX11_tests_158 : decode cX11_tests 158 = .ok (.getfield 56, 3) := by decide +kernel
theorem dX11_tests_161 : decode cX11_tests 161 = .ok (.iload_n 1, 1) := by decide +kernel
theorem dX11_tests_162 : decode cX11_tests 162 = .ok (.bipush 20, 2) := by decide +kernel
theorem dX11_tests_164 : decode cX11_tests 164 = .ok (.iastore, 1) := by decide +kernel
theorem dX11_tests_165 : decode cX11_tests 165 = .ok (.return_, 1) := by decide +kernel
theorem dX11_worked_0 : decode cX11_worked 0 = .ok (.iconst 0, 1) := by decide +kernel
theorem dX11_worked_1 : decode cX11_worked 1 = .ok (.istore_n 2, 1) := by decide +kernel
theorem dX11_worked_2 : decode cX11_worked 2 = .ok (.aload_n 0, 1) := by decide +kernel
theorem dX11_worked_3 : decode cX11_worked 3 = .ok (.iconst 0, 1) := by decide +kernel
theorem dX11_worked_4 : decode cX11_worked 4 = .ok (.invokevirtual 233, 3) := by decide +kernel
theorem dX11_worked_7 : decode cX11_worked 7 = .ok (.aload_n 0, 1) := by decide +kernel
theorem dX11_worked_8 : decode cX11_worked 8 = .ok (.getfield 25, 3) := by decide +kernel
theorem dX11_worked_11 : decode cX11_worked 11 = .ok (.iload_n 1, 1) := by decide +kernel
theorem dX11_worked_12 : decode cX11_worked 12 = .ok (.iaload, 1) := by decide +kernel
theorem dX11_worked_13 : decode cX11_worked 13 = .ok (.istore_n 3, 1) := by decide +kernel
theorem dX11_worked_14 : decode cX11_worked 14 = .ok (.iload_n 3, 1) := by decide +kernel
theorem dX11_worked_15 : decode cX11_worked 15 = .ok (.aload_n 0, 1) := by decide +kernel
theorem dX11_worked_16 : decode cX11_worked 16 = .ok (.getfield 28, 3) := by decide +kernel
theorem dX11_worked_19 : decode cX11_worked 19 = .ok (.iload_n 1, 1) := by decide +kernel
theorem dX11_worked_20 : decode cX11_worked 20 = .ok (.iaload, 1) := by decide +kernel
theorem dX11_worked_21 : decode cX11_worked 21 = .ok (.if_icmp .ge 314, 3) := by decide +kernel
theorem dX11_worked_24 : decode cX11_worked 24 = .ok (.aload_n 0, 1) := by decide +kernel
theorem dX11_worked_25 : decode cX11_worked 25 = .ok (.getfield 31, 3) := by decide +kernel
theorem dX11_worked_28 : decode cX11_worked 28 = .ok (.iload_n 3, 1) := by decide +kernel
theorem dX11_worked_29 : decode cX11_worked 29 = .ok (.iaload, 1) := by decide +kernel
theorem dX11_worked_30 : decode cX11_worked 30 = .ok (.istore 4, 2) := by decide +kernel
theorem dX11_worked_32 : decode cX11_worked 32 = .ok (.iload 4, 2) := by decide +kernel
theorem dX11_worked_34 : decode cX11_worked 34 = .ok (.bipush 28, 2) := by decide +kernel
theorem dX11_worked_36 : decode cX11_worked 36 = .ok (.if_icmp .eq 10, 3) := by decide +kernel
theorem dX11_worked_39 : decode cX11_worked 39 = .ok (.iload 4, 2) := by decide +kernel
theorem dX11_worked_41 : decode cX11_worked 41 = .ok (.bipush 30, 2) := by decide +kernel
theorem dX11_worked_43 : decode cX11_worked 43 = .ok (.if_icmp .ne 32, 3) := by decide +kernel
theorem dX11_worked_46 : decode cX11_worked 46 = .ok (.iinc 2 1, 3) := by decide +kernel
theorem dX11_worked_49 : decode cX11_worked 49 = .ok (.aload_n 0, 1) := by decide +kernel
theorem dX11_worked_50 : decode cX11_worked 50 = .ok (.getfield 65, 3) := by decide +kernel
theorem dX11_worked_53 : decode cX11_worked 53 = .ok (.iload_n 2, 1) := by decide +kernel
theorem dX11_worked_54 : decode cX11_worked 54 = .ok (.iload 4, 2) := by decide +kernel
theorem dX11_worked_56 : decode cX11_worked 56 = .ok (.bipush 30, 2) := by decide +kernel
theorem dX11_worked_58 : decode cX11_worked 58 = .ok (.if_icmp .ne 7, 3) := by decide +kernel
theorem dX11_worked_61 : decode cX11_worked 61 = .ok (.iconst 1, 1) := by decide +kernel
theorem dX11_worked_62 : decode cX11_worked 62 = .ok (.goto 4, 3) := by decide +kernel
theorem dX11_worked_65 : decode cX11_worked 65 = .ok (.iconst 0, 1) := by decide +kernel
theorem dX11_worked_66 : decode cX11_worked 66 = .ok (.iastore, 1) := by decide +kernel
theorem dX11_worked_67 : decode cX11_worked 67 = .ok (.aload_n 0, 1) := by decide +kernel
theorem dX11_worked_68 : decode cX11_worked 68 = .ok (.iload_n 2, 1) := by decide +kernel
theorem dX11_worked_69 : decode cX11_worked 69 = .ok (.invokevirtual 233, 3) := by decide +kernel
theorem dX11_worked_72 : decode cX11_worked 72 = .ok (.goto 257, 3) := by decide +kernel
theorem dX11_worked_75 : decode cX11_worked 75 = .ok (.iload 4, 2) := by decide +kernel
theorem dX11_worked_77 : decode cX11_worked 77 = .ok (.bipush 20, 2) := by decide +kernel
theorem dX11_worked_79 : decode cX11_worked 79 = .ok (.if_icmp .eq 10, 3) := by decide +kernel
theorem dX11_worked_82 : decode cX11_worked 82 = .ok (.iload 4, 2) := by decide +kernel
theorem dX11_worked_84 : decode cX11_worked 84 = .ok (.bipush 21, 2) := by decide +kernel
theorem dX11_worked_86 : decode cX11_worked 86 = .ok (.if_icmp .ne 19, 3) := by decide +kernel
theorem dX11_worked_89 : decode cX11_worked 89 = .ok (.aload_n 0, 1) := by decide +kernel
theorem dX11_worked_90 : decode cX11_worked 90 = .ok (.iload_n 2, 1) := by decide +kernel
theorem dX11_worked_91 : decode cX11_worked 91 = .ok (.invokevirtual 230, 3) := by decide +kernel
theorem dX11_worked_94 : decode cX11_worked 94 = .ok (.aload_n 0, 1) := by decide +kernel
theorem dX11_worked_95 : decode cX11_worked 95 = .ok (.getfield 56, 3) := by decide +kernel
theorem dX11_worked_98 : decode cX11_worked 98 = .ok (.iload_n 2, 1) := by decide +kernel
theorem dX11_worked_99 : decode cX11_worked 99 = .ok (.iload 4, 2) := by decide +kernel
theorem dX11_worked_101 : decode cX11_worked 101 = .ok (.iastore, 1) := by decide +kernel
theorem dX11_worked_102 : decode cX11_worked 102 = .ok (.goto 227, 3) := by decide +kernel
theorem dX11_worked_105 : decode cX11_worked 105 = .ok (.iload 4, 2) := by decide +kernel
theorem dX11_worked_107 : decode cX11_worked 107 = .ok (.bipush 22, 2) := by decide +kernel
theorem dX11_worked_109 : decode cX11_worked 109 = .ok (.if_icmp .ne 14, 3) := by decide +kernel
theorem dX11_worked_112 : decode cX11_worked 112 = .ok (.aload_n 0, 1) := by decide +kernel
theorem dX11_worked_113 : decode cX11_worked 113 = .ok (.getfield 62, 3) := by decide +kernel
theorem dX11_worked_116 : decode cX11_worked 116 = .ok (.iload_n 2, 1) := by decide +kernel
theorem dX11_worked_117 : decode cX11_worked 117 = .ok (.iload 4, 2) := by decide +kernel
theorem dX11_worked_119 : decode cX11_worked 119 = .ok (.iastore, 1) := by decide +kernel
theorem dX11_worked_120 : decode cX11_worked 120 = .ok (.goto 209, 3) := by decide +kernel
theorem dX11_worked_123 : decode cX11_worked 123 = .ok (.iload 4, 2) := by decide +kernel
theorem dX11_worked_125 : decode cX11_worked 125 = .ok (.bipush 24, 2) := by decide +kernel
theorem dX11_worked_127 : decode cX11_worked 127 = .ok (.if_icmp .eq 10, 3) := by decide +kernel
theorem dX11_worked_130 : decode cX11_worked 130 = .ok (.iload 4, 2) := by decide +kernel
theorem dX11_worked_132 : decode cX11_worked 132 = .ok (.bipush 25, 2) := by decide +kernel
theorem dX11_worked_134 : decode cX11_worked 134 = .ok (.if_icmp .ne 46, 3) := by decide +kernel
theorem dX11_worked_137 : decode cX11_worked 137 = .ok (.aload_n 0, 1) := by decide +kernel
theorem dX11_worked_138 : decode cX11_worked 138 = .ok (.iload_n 2, 1) := by decide +kernel
theorem dX11_worked_139 : decode cX11_worked 139 = .ok (.invokevirtual 230, 3) := by decide +kernel
theorem dX11_worked_142 : decode cX11_worked 142 = .ok (.aload_n 0, 1) := by decide +kernel
theorem dX11_worked_143 : decode cX11_worked 143 = .ok (.getfield 47, 3) := by decide +kernel
theorem dX11_worked_146 : decode cX11_worked 146 = .ok (.iload_n 2, 1) := by decide +kernel
theorem dX11_worked_147 : decode cX11_worked 147 = .ok (.aload_n 0, 1) := by decide +kernel
theorem dX11_worked_148 : decode cX11_worked 148 = .ok (.getfield 53, 3) := by decide +kernel
theorem dX11_worked_151 : decode cX11_worked 151 = .ok (.iload_n 2, 1) := by decide +kernel
theorem dX11_worked_152 : decode cX11_worked 152 = .ok (.iaload, 1) := by decide +kernel
theorem dX11_worked_153 : decode cX11_worked 153 = .ok (.iastore, 1) := by decide +kernel
theorem dX11_worked_154 : decode cX11_worked 154 = .ok (.aload_n 0, 1) := by decide +kernel
theorem dX11_worked_155 : decode cX11_worked 155 = .ok (.getfield 50, 3) := by decide +kernel
theorem dX11_worked_158 : decode cX11_worked 158 = .ok (.iload_n 2, 1) := by decide +kernel
theorem dX11_worked_159 : decode cX11_worked 159 = .ok (.iload 4, 2) := by decide +kernel
theorem dX11_worked_161 : decode cX11_worked 161 = .ok (.iastore, 1) := by decide +kernel
theorem dX11_worked_162 : decode cX11_worked 162 = .ok (.aload_n 0, 1) := by decide +kernel
theorem dX11_worked_163 : decode cX11_worked 163 = .ok (.getfield 53, 3) := by decide +kernel
theorem dX11_worked_166 : decode cX11_worked 166 = .ok (.iload_n 2, 1) := by decide +kernel
theorem dX11_worked_167 : decode cX11_worked 167 = .ok (.iconst 0, 1) := by decide +kernel
theorem dX11_worked_168 : decode cX11_worked 168 = .ok (.iastore, 1) := by decide +kernel
theorem dX11_worked_169 : decode cX11_worked 169 = .ok (.aload_n 0, 1) := by decide +kernel
theorem dX11_worked_170 : decode cX11_worked 170 = .ok (.getfield 56, 3) := by decide +kernel
theorem dX11_worked_173 : decode cX11_worked 173 = .ok (.iload_n 2, 1) := by decide +kernel
theorem dX11_worked_174 : decode cX11_worked 174 = .ok (.bipush 20, 2) := by decide +kernel
theorem dX11_worked_176 : decode cX11_worked 176 = .ok (.iastore, 1) := by decide +kernel
theorem dX11_worked_177 : decode cX11_worked 177 = .ok (.goto 152, 3) := by decide +kernel
theorem dX11_worked_180 : decode cX11_worked 180 = .ok (.iload 4, 2) := by decide +kernel
theorem dX11_worked_182 : decode cX11_worked 182 = .ok (.bipush 26, 2) := by decide +kernel
theorem dX11_worked_184 : decode cX11_worked 184 = .ok (.if_icmp .eq 10, 3) := by decide +kernel
theorem dX11_worked_187 : decode cX11_worked 187 = .ok (.iload 4, 2) := by decide +kernel
theorem dX11_worked_189 : decode cX11_worked 189 = .ok (.bipush 27, 2) := by decide +kernel
theorem dX11_worked_191 : decode cX11_worked 191 = .ok (.if_icmp .ne 19, 3) := by decide +kernel
theorem dX11_worked_194 : decode cX11_worked 194 = .ok (.aload_n 0, 1) := by decide +kernel
theorem dX11_worked_195 : decode cX11_worked 195 = .ok (.iload_n 2, 1) := by decide +kernel
theorem dX11_worked_196 : decode cX11_worked 196 = .ok (.invokevirtual 236, 3) := by decide +kernel
theorem dX11_worked_199 : decode cX11_worked 199 = .ok (.aload_n 0, 1) := by decide +kernel
theorem dX11_worked_200 : decode cX11_worked 200 = .ok (.getfield 44, 3) := by decide +kernel
theorem dX11_worked_203 : decode cX11_worked 203 = .ok (.iload_n 2, 1) := by decide +kernel
theorem dX11_worked_204 : decode cX11_worked 204 = .ok (.iload 4, 2) := by decide +kernel
theorem dX11_worked_206 : decode cX11_worked 206 = .ok (.iastore, 1) := by decide +kernel
theorem dX11_worked_207 : decode cX11_worked 207 = .ok (.goto 122, 3) := by decide +kernel
theorem dX11_worked_210 : decode cX11_worked 210 = .ok (.iload 4, 2) := by decide +kernel
theorem dX11_worked_212 : decode cX11_worked 212 = .ok (.bipush 100, 2) := by decide +kernel
theorem dX11_worked_214 : decode cX11_worked 214 = .ok (.if_icmp .lt 11, 3) := by decide +kernel
theorem dX11_worked_217 : decode cX11_worked 217 = .ok (.iload 4, 2) := by decide +kernel
theorem dX11_worked_219 : decode cX11_worked 219 = .ok (.bipush 100, 2) := by decide +kernel
theorem dX11_worked_221 : decode cX11_worked 221 = .ok (.isub, 1) := by decide +kernel
theorem dX11_worked_222 : decode cX11_worked 222 = .ok (.goto 21, 3) := by decide +kernel
theorem dX11_worked_225 : decode cX11_worked 225 = .ok (.iload 4, 2) := by decide +kernel
theorem dX11_worked_227 : decode cX11_worked 227 = .ok (.bipush 20, 2) := by decide +kernel
theorem dX11_worked_229 : decode cX11_worked 229 = .ok (.if_icmp .ge 13, 3) := by decide +kernel
theorem dX11_worked_232 : decode cX11_worked 232 = .ok (.aload_n 0, 1) := by decide +kernel
theorem dX11_worked_233 : decode cX11_worked 233 = .ok (.getfield 68, 3) := by decide +kernel
theorem dX11_worked_236 : decode cX11_worked 236 = .ok (.iload 4, 2) := by decide +kernel
theorem dX11_worked_238 : decode cX11_worked 238 = .ok (.iaload, 1) := by decide +kernel
theorem dX11_worked_239 : decode cX11_worked 239 = .ok (.goto 4, 3) := by decide +kernel
theorem dX11_worked_242 : decode cX11_worked 242 = .ok (.iconst 0, 1) := by decide +kernel
theorem dX11_worked_243 : decode cX11_worked 243 = .ok (.istore 5, 2) := by decide +kernel
theorem dX11_worked_245 : decode cX11_worked 245 = .ok (.iload 4, 2) := by decide +kernel
theorem dX11_worked_247 : decode cX11_worked 247 = .ok (.bipush 29, 2) := by decide +kernel
theorem dX11_worked_249 : decode cX11_worked 249 = .ok (.if_icmp .ne 19, 3) := by decide +kernel
theorem dX11_worked_252 : decode cX11_worked 252 = .ok (.aload_n 0, 1) := by decide +kernel
theorem dX11_worked_253 : decode cX11_worked 253 = .ok (.iload_n 2, 1) := by decide +kernel
theorem dX11_worked_254 : decode cX11_worked 254 = .ok (.invokevirtual 236, 3) := by decide +kernel
theorem dX11_worked_257 : decode cX11_worked 257 = .ok (.aload_n 0, 1) := by decide +kernel
theorem dX11_worked_258 : decode cX11_worked 258 = .ok (.getfield 41, 3) := by decide +kernel
theorem dX11_worked_261 : decode cX11_worked 261 = .ok (.iload_n 2, 1) := by decide +kernel
theorem dX11_worked_262 : decode cX11_worked 262 = .ok (.iaload, 1) := by decide +kernel
theorem dX11_worked_263 : decode cX11_worked 263 = .ok (.istore 5, 2) := by decide +kernel
theorem dX11_worked_265 : decode cX11_worked 265 = .ok (.iinc 2 (-1), 3) := by decide +kernel
theorem dX11_worked_268 : decode cX11_worked 268 = .ok (.iload_n 2, 1) := by decide +kernel
theorem dX11_worked_269 : decode cX11_worked 269 = .ok (.ifCond .le 31, 3) := by decide +kernel
theorem dX11_worked_272 : decode cX11_worked 272 = .ok (.aload_n 0, 1) := by decide +kernel
theorem dX11_worked_273 : decode cX11_worked 273 = .ok (.getfield 65, 3) := by decide +kernel
theorem dX11_worked_276 : decode cX11_worked 276 = .ok (.iload_n 2, 1) := by decide +kernel
theorem dX11_worked_277 : decode cX11_worked 277 = .ok (.iaload, 1) := by decide +kernel
theorem dX11_worked_278 : decode cX11_worked 278 = .ok (.iconst 1, 1) := by decide +kernel
theorem dX11_worked_279 : decode cX11_worked 279 = .ok (.if_icmp .ne 21, 3) := by decide +kernel
theorem dX11_worked_282 : decode cX11_worked 282 = .ok (.iload 5, 2) := by decide +kernel
theorem dX11_worked_284 : decode cX11_worked 284 = .ok (.ifCond .ne 7, 3) := by decide +kernel
theorem dX11_worked_287 : decode cX11_worked 287 = .ok (.iconst 1, 1) := by decide +kernel
theorem dX11_worked_288 : decode cX11_worked 288 = .ok (.goto 4, 3) := by decide +kernel
theorem dX11_worked_291 : decode cX11_worked 291 = .ok (.iconst 0, 1) := by decide +kernel
theorem dX11_worked_292 : decode cX11_worked 292 = .ok (.istore 5, 2) := by decide +kernel
theorem dX11_worked_294 : decode cX11_worked 294 = .ok (.iinc 2 (-1), 3) := by decide +kernel
theorem dX11_worked_297 : decode cX11_worked 297 = .ok (.goto (-29), 3) := by decide +kernel
theorem dX11_worked_300 : decode cX11_worked 300 = .ok (.aload_n 0, 1) := by decide +kernel
theorem dX11_worked_301 : decode cX11_worked 301 = .ok (.getfield 59, 3) := by decide +kernel
theorem dX11_worked_304 : decode cX11_worked 304 = .ok (.iload_n 2, 1) := by decide +kernel
theorem dX11_worked_305 : decode cX11_worked 305 = .ok (.aload_n 0, 1) := by decide +kernel
theorem dX11_worked_306 : decode cX11_worked 306 = .ok (.getfield 62, 3) := by decide +kernel
theorem dX11_worked_309 : decode cX11_worked 309 = .ok (.iload_n 2, 1) := by decide +kernel
theorem dX11_worked_310 : decode cX11_worked 310 = .ok (.iaload, 1) := by decide +kernel
theorem dX11_worked_311 : decode cX11_worked 311 = .ok (.ifCond .ne 8, 3) := by decide +kernel
theorem dX11_worked_314 : decode cX11_worked 314 = .ok (.iload 5, 2) := by decide +kernel
theorem dX11_worked_316 : decode cX11_worked 316 = .ok (.goto 12, 3) := by decide +kernel
theorem dX11_worked_319 : decode cX11_worked 319 = .ok (.aload_n 0, 1) := by decide +kernel
theorem dX11_worked_320 : decode cX11_worked 320 = .ok (.getfield 59, 3) := by decide +kernel
theorem dX11_worked_323 : decode cX11_worked 323 = .ok (.iload_n 2, 1) := by decide +kernel
theorem dX11_worked_324 : decode cX11_worked 324 = .ok (.iaload, 1) := by decide +kernel
theorem dX11_worked_325 : decode cX11_worked 325 = .ok (.iload 5, 2) := by decide +kernel
theorem dX11_worked_327 : decode cX11_worked 327 = .ok (.imul, 1) := by decide +kernel
theorem dX11_worked_328 : decode cX11_worked 328 = .ok (.iastore, 1) := by decide +kernel
theorem dX11_worked_329 : decode cX11_worked 329 = .ok (.iinc 3 1, 3) := by decide +kernel
theorem dX11_worked_332 : decode cX11_worked 332 = .ok (.goto (-318), 3) := by decide +kernel
theorem dX11_worked_335 : decode cX11_worked 335 = .ok (.aload_n 0, 1) := by decide +kernel
theorem dX11_worked_336 : decode cX11_worked 336 = .ok (.iconst 0, 1) := by decide +kernel
theorem dX11_worked_337 : decode cX11_worked 337 = .ok (.invokevirtual 236, 3) := by decide +kernel
theorem dX11_worked_340 : decode cX11_worked 340 = .ok (.aload_n 0, 1) := by decide +kernel
theorem dX11_worked_341 : decode cX11_worked 341 = .ok (.getfield 41, 3) := by decide +kernel
theorem dX11_worked_344 : decode cX11_worked 344 = .ok (.iconst 0, 1) := by decide +kernel
theorem dX11_worked_345 : decode cX11_worked 345 = .ok (.iaload, 1) := by decide +kernel
theorem dX11_worked_346 : decode cX11_worked 346 = .ok (.ireturn, 1) := by decide +kernel
theorem dX11_needsNumber_0 : decode cX11_needsNumber 0 = .ok (.aload_n 0, 1) := by decide +kernel
theorem dX11_needsNumber_1 : decode cX11_needsNumber 1 = .ok (.getfield 177, 3) := by decide +kernel
theorem dX11_needsNumber_4 : decode cX11_needsNumber 4 = .ok (.iconst 2, 1) := by decide +kernel
theorem dX11_needsNumber_5 : decode cX11_needsNumber 5 = .ok (.if_icmp .eq 9, 3) := by decide +kernel
theorem dX11_needsNumber_8 : decode cX11_needsNumber 8 = .ok (.aload_n 0, 1) := by decide +kernel
theorem dX11_needsNumber_9 : decode cX11_needsNumber 9 = .ok (.iconst 1, 1) := by decide +kernel
theorem dX11_needsNumber_10 : decode cX11_needsNumber 10 = .ok (.invokevirtual 216, 3) := by decide +kernel
theorem dX11_needsNumber_13 : decode cX11_needsNumber 13 = .ok (.ireturn, 1) := by decide +kernel
theorem dX11_needsNumber_14 : decode cX11_needsNumber 14 = .ok (.aload_n 0, 1) := by decide +kernel
theorem dX11_needsNumber_15 : decode cX11_needsNumber 15 = .ok (.getfield 174, 3) := by decide +kernel
theorem dX11_needsNumber_18 : decode cX11_needsNumber 18 = .ok (.iload_n 1, 1) := by decide +kernel
theorem dX11_needsNumber_19 : decode cX11_needsNumber 19 = .ok (.iload_n 2, 1) := by decide +kernel
theorem dX11_needsNumber_20 : decode cX11_needsNumber 20 = .ok (.invokestatic 239, 3) := by decide +kernel
theorem dX11_needsNumber_23 : decode cX11_needsNumber 23 = .ok (.ifCond .ne 9, 3) := by decide +kernel
theorem dX11_needsNumber_26 : decode cX11_needsNumber 26 = .ok (.aload_n 0, 1) := by decide +kernel
theorem dX11_needsNumber_27 : decode cX11_needsNumber 27 = .ok (.iconst 4, 1) := by decide +kernel
theorem dX11_needsNumber_28 : decode cX11_needsNumber 28 = .ok (.invokevirtual 216, 3) := by decide +kernel
theorem dX11_needsNumber_31 : decode cX11_needsNumber 31 = .ok (.ireturn, 1) := by decide +kernel
theorem dX11_needsNumber_32 : decode cX11_needsNumber 32 = .ok (.aload_n 0, 1) := by decide +kernel
theorem dX11_needsNumber_33 : decode cX11_needsNumber 33 = .ok (.aload_n 0, 1) := by decide +kernel
theorem dX11_needsNumber_34 : decode cX11_needsNumber 34 = .ok (.getfield 174, 3) := by decide +kernel
theorem dX11_needsNumber_37 : decode cX11_needsNumber 37 = .ok (.putfield 243, 3) := by decide +kernel
theorem dX11_needsNumber_40 : decode cX11_needsNumber 40 = .ok (.aload_n 0, 1) := by decide +kernel
theorem dX11_needsNumber_41 : decode cX11_needsNumber 41 = .ok (.invokevirtual 223, 3) := by decide +kernel
theorem dX11_needsNumber_44 : decode cX11_needsNumber 44 = .ok (.iconst 1, 1) := by decide +kernel
theorem dX11_needsNumber_45 : decode cX11_needsNumber 45 = .ok (.ireturn, 1) := by decide +kernel
theorem dX11_closes_0 : decode cX11_closes 0 = .ok (.aload_n 0, 1) := by decide +kernel
theorem dX11_closes_1 : decode cX11_closes 1 = .ok (.bipush 59, 2) := by decide +kernel
theorem dX11_closes_3 : decode cX11_closes 3 = .ok (.invokevirtual 212, 3) := by decide +kernel
theorem dX11_closes_6 : decode cX11_closes 6 = .ok (.ifCond .ne 9, 3) := by decide +kernel
theorem dX11_closes_9 : decode cX11_closes 9 = .ok (.aload_n 0, 1) := by decide +kernel
theorem dX11_closes_10 : decode cX11_closes 10 = .ok (.iconst 1, 1) := by decide +kernel
theorem dX11_closes_11 : decode cX11_closes 11 = .ok (.invokevirtual 216, 3) := by decide +kernel
theorem dX11_closes_14 : decode cX11_closes 14 = .ok (.ireturn, 1) := by decide +kernel
theorem dX11_closes_15 : decode cX11_closes 15 = .ok (.aload_n 0, 1) := by decide +kernel
theorem dX11_closes_16 : decode cX11_closes 16 = .ok (.invokevirtual 223, 3) := by decide +kernel
theorem dX11_closes_19 : decode cX11_closes 19 = .ok (.iconst 1, 1) := by decide +kernel
theorem dX11_closes_20 : decode cX11_closes 20 = .ok (.ireturn, 1) := by decide +kernel
theorem dX11_readsDisks_0 : decode cX11_readsDisks 0 = .ok (.aload_n 0, 1) := by decide +kernel
theorem dX11_readsDisks_1 : decode cX11_readsDisks 1 = .ok (.getfield 13, 3) := by decide +kernel
theorem dX11_readsDisks_4 : decode cX11_readsDisks 4 = .ok (.iconst 3, 1) := by decide +kernel
theorem dX11_readsDisks_5 : decode cX11_readsDisks 5 = .ok (.iaload, 1) := by decide +kernel
theorem dX11_readsDisks_6 : decode cX11_readsDisks 6 = .ok (.ifCond .le 9, 3) := by decide +kernel
theorem dX11_readsDisks_9 : decode cX11_readsDisks 9 = .ok (.aload_n 0, 1) := by decide +kernel
theorem dX11_readsDisks_10 : decode cX11_readsDisks 10 = .ok (.iconst 3, 1) := by decide +kernel
theorem dX11_readsDisks_11 : decode cX11_readsDisks 11 = .ok (.invokevirtual 216, 3) := by decide +kernel
theorem dX11_readsDisks_14 : decode cX11_readsDisks 14 = .ok (.ireturn, 1) := by decide +kernel
theorem dX11_readsDisks_15 : decode cX11_readsDisks 15 = .ok (.aload_n 0, 1) := by decide +kernel
theorem dX11_readsDisks_16 : decode cX11_readsDisks 16 = .ok (.invokevirtual 223, 3) := by decide +kernel
theorem dX11_readsDisks_19 : decode cX11_readsDisks 19 = .ok (.aload_n 0, 1) := by decide +kernel
theorem dX11_readsDisks_20 : decode cX11_readsDisks 20 = .ok (.iconst 2, 1) := by decide +kernel
theorem dX11_readsDisks_21 : decode cX11_readsDisks 21 = .ok (.bipush 13, 2) := by decide +kernel
theorem dX11_readsDisks_23 : decode cX11_readsDisks 23 = .ok (.invokevirtual 246, 3) := by decide +kernel
theorem dX11_readsDisks_26 : decode cX11_readsDisks 26 = .ok (.ifCond .ne 5, 3) := by decide +kernel
theorem dX11_readsDisks_29 : decode cX11_readsDisks 29 = .ok (.iconst 0, 1) := by decide +kernel
theorem dX11_readsDisks_30 : decode cX11_readsDisks 30 = .ok (.ireturn, 1) := by decide +kernel
theorem dX11_readsDisks_31 : decode cX11_readsDisks 31 = .ok (.aload_n 0, 1) := by decide +kernel
theorem dX11_readsDisks_32 : decode cX11_readsDisks 32 = .ok (.getfield 13, 3) := by decide +kernel
theorem dX11_readsDisks_35 : decode cX11_readsDisks 35 = .ok (.iconst 3, 1) := by decide +kernel
theorem dX11_readsDisks_36 : decode cX11_readsDisks 36 = .ok (.aload_n 0, 1) := by decide +kernel
theorem dX11_readsDisks_37 : decode cX11_readsDisks 37 = .ok (.getfield 243, 3) := by decide +kernel
theorem dX11_readsDisks_40 : decode cX11_readsDisks 40 = .ok (.iastore, 1) := by decide +kernel
theorem dX11_readsDisks_41 : decode cX11_readsDisks 41 = .ok (.aload_n 0, 1) := by decide +kernel
theorem dX11_readsDisks_42 : decode cX11_readsDisks 42 = .ok (.invokevirtual 250, 3) := by decide +kernel
theorem dX11_readsDisks_45 : decode cX11_readsDisks 45 = .ok (.ireturn, 1) := by decide +kernel
theorem dX11_readsSpeed_0 : decode cX11_readsSpeed 0 = .ok (.aload_n 0, 1) := by decide +kernel
theorem dX11_readsSpeed_1 : decode cX11_readsSpeed 1 = .ok (.getfield 254, 3) := by decide +kernel
theorem dX11_readsSpeed_4 : decode cX11_readsSpeed 4 = .ok (.ifCond .eq 9, 3) := by decide +kernel
theorem dX11_readsSpeed_7 : decode cX11_readsSpeed 7 = .ok (.aload_n 0, 1) := by decide +kernel
theorem dX11_readsSpeed_8 : decode cX11_readsSpeed 8 = .ok (.iconst 3, 1) := by decide +kernel
theorem dX11_readsSpeed_9 : decode cX11_readsSpeed 9 = .ok (.invokevirtual 216, 3) := by decide +kernel
theorem dX11_readsSpeed_12 : decode cX11_readsSpeed 12 = .ok (.ireturn, 1) := by decide +kernel
theorem dX11_readsSpeed_13 : decode cX11_readsSpeed 13 = .ok (.aload_n 0, 1) := by decide +kernel
theorem dX11_readsSpeed_14 : decode cX11_readsSpeed 14 = .ok (.iconst 1, 1) := by decide +kernel
theorem dX11_readsSpeed_15 : decode cX11_readsSpeed 15 = .ok (.putfield 254, 3) := by decide +kernel
theorem dX11_readsSpeed_18 : decode cX11_readsSpeed 18 = .ok (.aload_n 0, 1) := by decide +kernel
theorem dX11_readsSpeed_19 : decode cX11_readsSpeed 19 = .ok (.invokevirtual 223, 3) := by decide +kernel
theorem dX11_readsSpeed_22 : decode cX11_readsSpeed 22 = .ok (.aload_n 0, 1) := by decide +kernel
theorem dX11_readsSpeed_23 : decode cX11_readsSpeed 23 = .ok (.iconst 1, 1) := by decide +kernel
theorem dX11_readsSpeed_24 : decode cX11_readsSpeed 24 = .ok (.bipush 9, 2) := by decide +kernel
theorem dX11_readsSpeed_26 : decode cX11_readsSpeed 26 = .ok (.invokevirtual 246, 3) := by decide +kernel
theorem dX11_readsSpeed_29 : decode cX11_readsSpeed 29 = .ok (.ifCond .ne 5, 3) := by decide +kernel
theorem dX11_readsSpeed_32 : decode cX11_readsSpeed 32 = .ok (.iconst 0, 1) := by decide +kernel
theorem dX11_readsSpeed_33 : decode cX11_readsSpeed 33 = .ok (.ireturn, 1) := by decide +kernel
theorem dX11_readsSpeed_34 : decode cX11_readsSpeed 34 = .ok (.aload_n 0, 1) := by decide +kernel
theorem dX11_readsSpeed_35 : decode cX11_readsSpeed 35 = .ok (.getfield 13, 3) := by decide +kernel
theorem dX11_readsSpeed_38 : decode cX11_readsSpeed 38 = .ok (.iconst 5, 1) := by decide +kernel
theorem dX11_readsSpeed_39 : decode cX11_readsSpeed 39 = .ok (.aload_n 0, 1) := by decide +kernel
theorem dX11_readsSpeed_40 : decode cX11_readsSpeed 40 = .ok (.getfield 243, 3) := by decide +kernel
theorem dX11_readsSpeed_43 : decode cX11_readsSpeed 43 = .ok (.iastore, 1) := by decide +kernel
theorem dX11_readsSpeed_44 : decode cX11_readsSpeed 44 = .ok (.aload_n 0, 1) := by decide +kernel
theorem dX11_readsSpeed_45 : decode cX11_readsSpeed 45 = .ok (.invokevirtual 250, 3) := by decide +kernel
theorem dX11_readsSpeed_48 : decode cX11_readsSpeed 48 = .ok (.ireturn, 1) := by decide +kernel
theorem dX11_readsParity_0 : decode cX11_readsParity 0 = .ok (.aload_n 0, 1) := by decide +kernel
theorem dX11_readsParity_1 : decode cX11_readsParity 1 = .ok (.getfield 28, 3) := by decide +kernel
theorem dX11_readsParity_4 : decode cX11_readsParity 4 = .ok (.iconst 1, 1) := by decide +kernel
theorem dX11_readsParity_5 : decode cX11_readsParity 5 = .ok (.iaload, 1) := by decide +kernel
theorem dX11_readsParity_6 : decode cX11_readsParity 6 = .ok (.aload_n 0, 1) := by decide +kernel
theorem dX11_readsParity_7 : decode cX11_readsParity 7 = .ok (.getfield 25, 3) := by decide +kernel
theorem dX11_readsParity_10 : decode cX11_readsParity 10 = .ok (.iconst 1, 1) := by decide +kernel
theorem dX11_readsParity_11 : decode cX11_readsParity 11 = .ok (.iaload, 1) := by decide +kernel
theorem dX11_readsParity_12 : decode cX11_readsParity 12 = .ok (.if_icmp .le 9, 3) := by decide +kernel
theorem dX11_readsParity_15 : decode cX11_readsParity 15 = .ok (.aload_n 0, 1) := by decide +kernel
theorem dX11_readsParity_16 : decode cX11_readsParity 16 = .ok (.iconst 3, 1) := by decide +kernel
theorem dX11_readsParity_17 : decode cX11_readsParity 17 = .ok (.invokevirtual 216, 3) := by decide +kernel
theorem dX11_readsParity_20 : decode cX11_readsParity 20 = .ok (.ireturn, 1) := by decide +kernel
theorem dX11_readsParity_21 : decode cX11_readsParity 21 = .ok (.aload_n 0, 1) := by decide +kernel
theorem dX11_readsParity_22 : decode cX11_readsParity 22 = .ok (.invokevirtual 223, 3) := by decide +kernel
theorem dX11_readsParity_25 : decode cX11_readsParity 25 = .ok (.aload_n 0, 1) := by decide +kernel
theorem dX11_readsParity_26 : decode cX11_readsParity 26 = .ok (.getfield 25, 3) := by decide +kernel
theorem dX11_readsParity_29 : decode cX11_readsParity 29 = .ok (.iconst 1, 1) := by decide +kernel
theorem dX11_readsParity_30 : decode cX11_readsParity 30 = .ok (.aload_n 0, 1) := by decide +kernel
theorem dX11_readsParity_31 : decode cX11_readsParity 31 = .ok (.getfield 191, 3) := by decide +kernel
theorem dX11_readsParity_34 : decode cX11_readsParity 34 = .ok (.iastore, 1) := by decide +kernel
theorem dX11_readsParity_35 : decode cX11_readsParity 35 = .ok (.aload_n 0, 1) := by decide +kernel
theorem dX11_readsParity_36 : decode cX11_readsParity 36 = .ok (.invokevirtual 258, 3) := by decide +kernel
theorem dX11_readsParity_39 : decode cX11_readsParity 39 = .ok (.ifCond .ne 5, 3) := by decide +kernel
theorem dX11_readsParity_42 : decode cX11_readsParity 42 = .ok (.iconst 0, 1) := by decide +kernel
theorem dX11_readsParity_43 : decode cX11_readsParity 43 = .ok (.ireturn, 1) := by decide +kernel
theorem dX11_readsParity_44 : decode cX11_readsParity 44 = .ok (.aload_n 0, 1) := by decide +kernel
theorem dX11_readsParity_45 : decode cX11_readsParity 45 = .ok (.getfield 28, 3) := by decide +kernel
theorem dX11_readsParity_48 : decode cX11_readsParity 48 = .ok (.iconst 1, 1) := by decide +kernel
theorem dX11_readsParity_49 : decode cX11_readsParity 49 = .ok (.aload_n 0, 1) := by decide +kernel
theorem dX11_readsParity_50 : decode cX11_readsParity 50 = .ok (.getfield 191, 3) := by decide +kernel
theorem dX11_readsParity_53 : decode cX11_readsParity 53 = .ok (.iastore, 1) := by decide +kernel
theorem dX11_readsParity_54 : decode cX11_readsParity 54 = .ok (.iconst 1, 1) := by decide +kernel
theorem dX11_readsParity_55 : decode cX11_readsParity 55 = .ok (.ireturn, 1) := by decide +kernel
theorem dX11_stripesOf_0 : decode cX11_stripesOf 0 = .ok (.iload_n 0, 1) := by decide +kernel
theorem dX11_stripesOf_1 : decode cX11_stripesOf 1 = .ok (.ifCond .ne 7, 3) := by decide +kernel
theorem dX11_stripesOf_4 : decode cX11_stripesOf 4 = .ok (.iconst 1, 1) := by decide +kernel
theorem dX11_stripesOf_5 : decode cX11_stripesOf 5 = .ok (.goto 13, 3) := by decide +kernel
theorem dX11_stripesOf_8 : decode cX11_stripesOf 8 = .ok (.iload_n 0, 1) := by decide +kernel
theorem dX11_stripesOf_9 : decode cX11_stripesOf 9 = .ok (.iconst 1, 1) := by decide +kernel
theorem dX11_stripesOf_10 : decode cX11_stripesOf 10 = .ok (.if_icmp .ne 7, 3) := by decide +kernel
theorem dX11_stripesOf_13 : decode cX11_stripesOf 13 = .ok (.iload_n 1, 1) := by decide +kernel
theorem dX11_stripesOf_14 : decode cX11_stripesOf 14 = .ok (.goto 4, 3) := by decide +kernel
theorem dX11_stripesOf_17 : decode cX11_stripesOf 17 = .ok (.iconst 2, 1) := by decide +kernel
theorem dX11_stripesOf_18 : decode cX11_stripesOf 18 = .ok (.ireturn, 1) := by decide +kernel
theorem dX11_allStripes_0 : decode cX11_allStripes 0 = .ok (.iconst 0, 1) := by decide +kernel
theorem dX11_allStripes_1 : decode cX11_allStripes 1 = .ok (.istore_n 3, 1) := by decide +kernel
theorem dX11_allStripes_2 : decode cX11_allStripes 2 = .ok (.bipush 6, 2) := by decide +kernel
theorem dX11_allStripes_4 : decode cX11_allStripes 4 = .ok (.iload_n 1, 1) := by decide +kernel
theorem dX11_allStripes_5 : decode cX11_allStripes 5 = .ok (.imul, 1) := by decide +kernel
theorem dX11_allStripes_6 : decode cX11_allStripes 6 = .ok (.istore 4, 2) := by decide +kernel
theorem dX11_allStripes_8 : decode cX11_allStripes 8 = .ok (.iload 4, 2) := by decide +kernel
theorem dX11_allStripes_10 : decode cX11_allStripes 10 = .ok (.bipush 6, 2) := by decide +kernel
theorem dX11_allStripes_12 : decode cX11_allStripes 12 = .ok (.iload_n 1, 1) := by decide +kernel
theorem dX11_allStripes_13 : decode cX11_allStripes 13 = .ok (.imul, 1) := by decide +kernel
theorem dX11_allStripes_14 : decode cX11_allStripes 14 = .ok (.aload_n 0, 1) := by decide +kernel
theorem dX11_allStripes_15 : decode cX11_allStripes 15 = .ok (.getfield 13, 3) := by decide +kernel
theorem dX11_allStripes_18 : decode cX11_allStripes 18 = .ok (.iconst 3, 1) := by decide +kernel
theorem dX11_allStripes_19 : decode cX11_allStripes 19 = .ok (.iload_n 1, 1) := by decide +kernel
theorem dX11_allStripes_20 : decode cX11_allStripes 20 = .ok (.imul, 1) := by decide +kernel
theorem dX11_allStripes_21 : decode cX11_allStripes 21 = .ok (.iconst 1, 1) := by decide +kernel
theorem dX11_allStripes_22 : decode cX11_allStripes 22 = .ok (.iadd, 1) := by decide +kernel
theorem dX11_allStripes_23 : decode cX11_allStripes 23 = .ok (.iaload, 1) := by decide +kernel
theorem dX11_allStripes_24 : decode cX11_allStripes 24 = .ok (.iadd, 1) := by decide +kernel
theorem dX11_allStripes_25 : decode cX11_allStripes 25 = .ok (.if_icmp .ge 23, 3) := by decide +kernel
theorem dX11_allStripes_28 : decode cX11_allStripes 28 = .ok (.iload_n 3, 1) := by decide +kernel
theorem dX11_allStripes_29 : decode cX11_allStripes 29 = .ok (.aload_n 0, 1) := by decide +kernel
theorem dX11_allStripes_30 : decode cX11_allStripes 30 = .ok (.getfield 16, 3) := by decide +kernel
theorem dX11_allStripes_33 : decode cX11_allStripes 33 = .ok (.iload 4, 2) := by decide +kernel
theorem dX11_allStripes_35 : decode cX11_allStripes 35 = .ok (.iaload, 1) := by decide +kernel
theorem dX11_allStripes_36 : decode cX11_allStripes 36 = .ok (.iload_n 2, 1) := by decide +kernel
theorem dX11_allStripes_37 : decode cX11_allStripes 37 = .ok (.invokestatic 261, 3) := by decide +kernel
theorem dX11_allStripes_40 : decode cX11_allStripes 40 = .ok (.iadd, 1) := by decide +kernel
theorem dX11_allStripes_41 : decode cX11_allStripes 41 = .ok (.istore_n 3, 1) := by decide +kernel
theorem dX11_allStripes_42 : decode cX11_allStripes 42 = .ok (.iinc 4 1, 3) := by decide +kernel
theorem dX11_allStripes_45 : decode cX11_allStripes 45 = .ok (.goto (-37), 3) := by decide +kernel
theorem dX11_allStripes_48 : decode cX11_allStripes 48 = .ok (.iload_n 3, 1) := by decide +kernel
theorem dX11_allStripes_49 : decode cX11_allStripes 49 = .ok (.ireturn, 1) := by decide +kernel
theorem dX11_readsBlock_0 : decode cX11_readsBlock 0 = .ok (.bipush 6, 2) := by decide +kernel
theorem dX11_readsBlock_2 : decode cX11_readsBlock 2 = .ok (.aload_n 0, 1) := by decide +kernel
theorem dX11_readsBlock_3 : decode cX11_readsBlock 3 = .ok (.getfield 13, 3) := by decide +kernel
theorem dX11_readsBlock_6 : decode cX11_readsBlock 6 = .ok (.iconst 4, 1) := by decide +kernel
theorem dX11_readsBlock_7 : decode cX11_readsBlock 7 = .ok (.iaload, 1) := by decide +kernel
theorem dX11_readsBlock_8 : decode cX11_readsBlock 8 = .ok (.iadd, 1) := by decide +kernel
theorem dX11_readsBlock_9 : decode cX11_readsBlock 9 = .ok (.istore_n 1, 1) := by decide +kernel
theorem dX11_readsBlock_10 : decode cX11_readsBlock 10 = .ok (.iload_n 1, 1) := by decide +kernel
theorem dX11_readsBlock_11 : decode cX11_readsBlock 11 = .ok (.bipush 12, 2) := by decide +kernel
theorem dX11_readsBlock_13 : decode cX11_readsBlock 13 = .ok (.if_icmp .ne 9, 3) := by decide +kernel
theorem dX11_readsBlock_16 : decode cX11_readsBlock 16 = .ok (.aload_n 0, 1) := by decide +kernel
theorem dX11_readsBlock_17 : decode cX11_readsBlock 17 = .ok (.iconst 5, 1) := by decide +kernel
theorem dX11_readsBlock_18 : decode cX11_readsBlock 18 = .ok (.invokevirtual 216, 3) := by decide +kernel
theorem dX11_readsBlock_21 : decode cX11_readsBlock 21 = .ok (.ireturn, 1) := by decide +kernel
theorem dX11_readsBlock_22 : decode cX11_readsBlock 22 = .ok (.aload_n 0, 1) := by decide +kernel
theorem dX11_readsBlock_23 : decode cX11_readsBlock 23 = .ok (.invokevirtual 223, 3) := by decide +kernel
theorem dX11_readsBlock_26 : decode cX11_readsBlock 26 = .ok (.aload_n 0, 1) := by decide +kernel
theorem dX11_readsBlock_27 : decode cX11_readsBlock 27 = .ok (.getfield 16, 3) := by decide +kernel
theorem dX11_readsBlock_30 : decode cX11_readsBlock 30 = .ok (.iload_n 1, 1) := by decide +kernel
theorem dX11_readsBlock_31 : decode cX11_readsBlock 31 = .ok (.aload_n 0, 1) := by decide +kernel
theorem dX11_readsBlock_32 : decode cX11_readsBlock 32 = .ok (.ldc2_w 265, 3) := by decide +kernel
theorem dX11_readsBlock_35 : decode cX11_readsBlock 35 = .ok (.invokevirtual 208, 3) := by decide +kernel
theorem dX11_readsBlock_38 : decode cX11_readsBlock 38 = .ok (.ifCond .eq 7, 3) := by decide +kernel
theorem dX11_readsBlock_41 : decode cX11_readsBlock 41 = .ok (.iconst 0, 1) := by decide +kernel
theorem dX11_readsBlock_42 : decode cX11_readsBlock 42 = .ok (.goto 46, 3) := by decide +kernel
theorem dX11_readsBlock_45 : decode cX11_readsBlock 45 = .ok (.aload_n 0, 1) := by decide +kernel
theorem dX11_readsBlock_46 : decode cX11_readsBlock 46 = .ok (.ldc2_w 267, 3) := by decide +kernel
theorem dX11_readsBlock_49 : decode cX11_readsBlock 49 = .ok (.invokevirtual 208, 3) := by decide +kernel
theorem dX11_readsBlock_52 : decode cX11_readsBlock 52 = .ok (.ifCond .eq 7, 3) := by decide +kernel
theorem dX11_readsBlock_55 : decode cX11_readsBlock 55 = .ok (.iconst 1, 1) := by decide +kernel
theorem dX11_readsBlock_56 : decode cX11_readsBlock 56 = .ok (.goto 32, 3) := by decide +kernel
theorem dX11_readsBlock_59 : decode cX11_readsBlock 59 = .ok (.aload_n 0, 1) := by decide +kernel
theorem dX11_readsBlock_60 : decode cX11_readsBlock 60 = .ok (.ldc2_w 269, 3) := by decide +kernel
theorem dX11_readsBlock_63 : decode cX11_readsBlock 63 = .ok (.invokevirtual 208, 3) := by decide +kernel
theorem dX11_readsBlock_66 : decode cX11_readsBlock 66 = .ok (.ifCond .eq 7, 3) := by decide +kernel
theorem dX11_readsBlock_69 : decode cX11_readsBlock 69 = .ok (.iconst 2, 1) := by decide +kernel
theorem dX11_readsBlock_70 : decode cX11_readsBlock 70 = .ok (.goto 18, 3) := by decide +kernel
theorem dX11_readsBlock_73 : decode cX11_readsBlock 73 = .ok (.aload_n 0, 1) := by decide +kernel
theorem dX11_readsBlock_74 : decode cX11_readsBlock 74 = .ok (.ldc2_w 271, 3) := by decide +kernel
theorem dX11_readsBlock_77 : decode cX11_readsBlock 77 = .ok (.invokevirtual 208, 3) := by decide +kernel
theorem dX11_readsBlock_80 : decode cX11_readsBlock 80 = .ok (.ifCond .eq 7, 3) := by decide +kernel
theorem dX11_readsBlock_83 : decode cX11_readsBlock 83 = .ok (.iconst 3, 1) := by decide +kernel
theorem dX11_readsBlock_84 : decode cX11_readsBlock 84 = .ok (.goto 4, 3) := by decide +kernel
theorem dX11_readsBlock_87 : decode cX11_readsBlock 87 = .ok (.iconst (-1), 1) := by decide +kernel
theorem dX11_readsBlock_88 : decode cX11_readsBlock 88 = .ok (.iastore, 1) := by decide +kernel
theorem dX11_readsBlock_89 : decode cX11_readsBlock 89 = .ok (.aload_n 0, 1) := by decide +kernel
theorem dX11_readsBlock_90 : decode cX11_readsBlock 90 = .ok (.getfield 16, 3) := by decide +kernel
theorem dX11_readsBlock_93 : decode cX11_readsBlock 93 = .ok (.iload_n 1, 1) := by decide +kernel
theorem dX11_readsBlock_94 : decode cX11_readsBlock 94 = .ok (.iaload, 1) := by decide +kernel
theorem dX11_readsBlock_95 : decode cX11_readsBlock 95 = .ok (.ifCond .ge 9, 3) := by decide +kernel
theorem dX11_readsBlock_98 : decode cX11_readsBlock 98 = .ok (.aload_n 0, 1) := by decide +kernel
theorem dX11_readsBlock_99 : decode cX11_readsBlock 99 = .ok (.iconst 1, 1) := by decide +kernel
theorem dX11_readsBlock_100 : decode cX11_readsBlock 100 = .ok (.invokevirtual 216, 3) := by decide +kernel
theorem dX11_readsBlock_103 : decode cX11_readsBlock 103 = .ok (.ireturn, 1) := by decide +kernel
theorem dX11_readsBlock_104 : decode cX11_readsBlock 104 = .ok (.aload_n 0, 1) := by decide +kernel
theorem dX11_readsBlock_105 : decode cX11_readsBlock 105 = .ok (.invokevirtual 223, 3) := by decide +kernel
theorem dX11_readsBlock_108 : decode cX11_readsBlock 108 = .ok (.aload_n 0, 1) := by decide +kernel
theorem dX11_readsBlock_109 : decode cX11_readsBlock 109 = .ok (.getfield 19, 3) := by decide +kernel
theorem dX11_readsBlock_112 : decode cX11_readsBlock 112 = .ok (.iload_n 1, 1) := by decide +kernel
theorem dX11_readsBlock_113 : decode cX11_readsBlock 113 = .ok (.iconst 0, 1) := by decide +kernel
theorem dX11_readsBlock_114 : decode cX11_readsBlock 114 = .ok (.iastore, 1) := by decide +kernel
theorem dX11_readsBlock_115 : decode cX11_readsBlock 115 = .ok (.iconst 0, 1) := by decide +kernel
theorem dX11_readsBlock_116 : decode cX11_readsBlock 116 = .ok (.istore_n 2, 1) := by decide +kernel
theorem dX11_readsBlock_117 : decode cX11_readsBlock 117 = .ok (.aload_n 0, 1) := by decide +kernel
theorem dX11_readsBlock_118 : decode cX11_readsBlock 118 = .ok (.getfield 19, 3) := by decide +kernel
theorem dX11_readsBlock_121 : decode cX11_readsBlock 121 = .ok (.iload_n 1, 1) := by decide +kernel
theorem dX11_readsBlock_122 : decode cX11_readsBlock 122 = .ok (.iaload, 1) := by decide +kernel
theorem dX11_readsBlock_123 : decode cX11_readsBlock 123 = .ok (.iconst 2, 1) := by decide +kernel
theorem dX11_readsBlock_124 : decode cX11_readsBlock 124 = .ok (.if_icmp .lt 11, 3) := by decide +kernel
theorem dX11_readsBlock_127 : decode cX11_readsBlock 127 = .ok (.aload_n 0, 1) := by decide +kernel
theorem dX11_readsBlock_128 : decode cX11_readsBlock 128 = .ok (.getfield 177, 3) := by decide +kernel
theorem dX11_readsBlock_131 : decode cX11_readsBlock 131 = .ok (.iconst 2, 1) := by decide +kernel
theorem dX11_readsBlock_132 : decode cX11_readsBlock 132 = .ok (.if_icmp .ne 139, 3) := by decide +kernel
theorem dX11_readsBlock_135 : decode cX11_readsBlock 135 = .ok (.aload_n 0, 1) := by decide +kernel
theorem dX11_readsBlock_136 : decode cX11_readsBlock 136 = .ok (.getfield 177, 3) := by decide +kernel
theorem dX11_readsBlock_139 : decode cX11_readsBlock 139 = .ok (.iconst 2, 1) := by decide +kernel
theorem dX11_readsBlock_140 : decode cX11_readsBlock 140 = .ok (.if_icmp .eq 9, 3) := by decide +kernel
theorem dX11_readsBlock_143 : decode cX11_readsBlock 143 = .ok (.aload_n 0, 1) := by decide +kernel
theorem dX11_readsBlock_144 : decode cX11_readsBlock 144 = .ok (.iconst 1, 1) := by decide +kernel
theorem dX11_readsBlock_145 : decode cX11_readsBlock 145 = .ok (.invokevirtual 216, 3) := by decide +kernel
theorem dX11_readsBlock_148 : decode cX11_readsBlock 148 = .ok (.ireturn, 1) := by decide +kernel
theorem dX11_readsBlock_149 : decode cX11_readsBlock 149 = .ok (.aload_n 0, 1) := by decide +kernel
theorem dX11_readsBlock_150 : decode cX11_readsBlock 150 = .ok (.getfield 174, 3) := by decide +kernel
theorem dX11_readsBlock_153 : decode cX11_readsBlock 153 = .ok (.iconst 0, 1) := by decide +kernel
theorem dX11_readsBlock_154 : decode cX11_readsBlock 154 = .ok (.aload_n 0, 1) := by decide +kernel
theorem dX11_readsBlock_155 : decode cX11_readsBlock 155 = .ok (.getfield 13, 3) := by decide +kernel
theorem dX11_readsBlock_158 : decode cX11_readsBlock 158 = .ok (.iconst 3, 1) := by decide +kernel
theorem dX11_readsBlock_159 : decode cX11_readsBlock 159 = .ok (.iaload, 1) := by decide +kernel
theorem dX11_readsBlock_160 : decode cX11_readsBlock 160 = .ok (.iconst 1, 1) := by decide +kernel
theorem dX11_readsBlock_161 : decode cX11_readsBlock 161 = .ok (.isub, 1) := by decide +kernel
theorem dX11_readsBlock_162 : decode cX11_readsBlock 162 = .ok (.invokestatic 239, 3) := by decide +kernel
theorem dX11_readsBlock_165 : decode cX11_readsBlock 165 = .ok (.ifCond .eq 20, 3) := by decide +kernel
theorem dX11_readsBlock_168 : decode cX11_readsBlock 168 = .ok (.iload_n 2, 1) := by decide +kernel
theorem dX11_readsBlock_169 : decode cX11_readsBlock 169 = .ok (.aload_n 0, 1) := by decide +kernel
theorem dX11_readsBlock_170 : decode cX11_readsBlock 170 = .ok (.getfield 174, 3) := by decide +kernel
theorem dX11_readsBlock_173 : decode cX11_readsBlock 173 = .ok (.invokestatic 273, 3) := by decide +kernel
theorem dX11_readsBlock_176 : decode cX11_readsBlock 176 = .ok (.ifCond .eq 9, 3) := by decide +kernel
theorem dX11_readsBlock_179 : decode cX11_readsBlock 179 = .ok (.aload_n 0, 1) := by decide +kernel
theorem dX11_readsBlock_180 : decode cX11_readsBlock 180 = .ok (.iconst 3, 1) := by decide +kernel
theorem dX11_readsBlock_181 : decode cX11_readsBlock 181 = .ok (.invokevirtual 216, 3) := by decide +kernel
theorem dX11_readsBlock_184 : decode cX11_readsBlock 184 = .ok (.ireturn, 1) := by decide +kernel
theorem dX11_readsBlock_185 : decode cX11_readsBlock 185 = .ok (.aload_n 0, 1) := by decide +kernel
theorem dX11_readsBlock_186 : decode cX11_readsBlock 186 = .ok (.getfield 174, 3) := by decide +kernel
theorem dX11_readsBlock_189 : decode cX11_readsBlock 189 = .ok (.iconst 0, 1) := by decide +kernel
theorem dX11_readsBlock_190 : decode cX11_readsBlock 190 = .ok (.aload_n 0, 1) := by decide +kernel
theorem dX11_readsBlock_191 : decode cX11_readsBlock 191 = .ok (.getfield 13, 3) := by decide +kernel
theorem dX11_readsBlock_194 : decode cX11_readsBlock 194 = .ok (.iconst 3, 1) := by decide +kernel
theorem dX11_readsBlock_195 : decode cX11_readsBlock 195 = .ok (.iaload, 1) := by decide +kernel
theorem dX11_readsBlock_196 : decode cX11_readsBlock 196 = .ok (.iconst 1, 1) := by decide +kernel
theorem dX11_readsBlock_197 : decode cX11_readsBlock 197 = .ok (.isub, 1) := by decide +kernel
theorem dX11_readsBlock_198 : decode cX11_readsBlock 198 = .ok (.invokestatic 239, 3) := by decide +kernel
theorem dX11_readsBlock_201 : decode cX11_readsBlock 201 = .ok (.ifCond .ne 9, 3) := by decide +kernel
theorem dX11_readsBlock_204 : decode cX11_readsBlock 204 = .ok (.aload_n 0, 1) := by decide +kernel
theorem dX11_readsBlock_205 : decode cX11_readsBlock 205 = .ok (.iconst 4, 1) := by decide +kernel
theorem dX11_readsBlock_206 : decode cX11_readsBlock 206 = .ok (.invokevirtual 216, 3) := by decide +kernel
theorem dX11_readsBlock_209 : decode cX11_readsBlock 209 = .ok (.ireturn, 1) := by decide +kernel
theorem dX11_readsBlock_210 : decode cX11_readsBlock 210 = .ok (.aload_n 0, 1) := by decide +kernel
theorem dX11_readsBlock_211 : decode cX11_readsBlock 211 = .ok (.getfield 19, 3) := by decide +kernel
theorem dX11_readsBlock_214 : decode cX11_readsBlock 214 = .ok (.iload_n 1, 1) := by decide +kernel
theorem dX11_readsBlock_215 : decode cX11_readsBlock 215 = .ok (.iaload, 1) := by decide +kernel
theorem dX11_readsBlock_216 : decode cX11_readsBlock 216 = .ok (.iconst 5, 1) := by decide +kernel
theorem dX11_readsBlock_217 : decode cX11_readsBlock 217 = .ok (.if_icmp .ne 9, 3) := by decide +kernel
theorem dX11_readsBlock_220 : decode cX11_readsBlock 220 = .ok (.aload_n 0, 1) := by decide +kernel
theorem dX11_readsBlock_221 : decode cX11_readsBlock 221 = .ok (.iconst 5, 1) := by decide +kernel
theorem dX11_readsBlock_222 : decode cX11_readsBlock 222 = .ok (.invokevirtual 216, 3) := by decide +kernel
theorem dX11_readsBlock_225 : decode cX11_readsBlock 225 = .ok (.ireturn, 1) := by decide +kernel
theorem dX11_readsBlock_226 : decode cX11_readsBlock 226 = .ok (.aload_n 0, 1) := by decide +kernel
theorem dX11_readsBlock_227 : decode cX11_readsBlock 227 = .ok (.getfield 22, 3) := by decide +kernel
theorem dX11_readsBlock_230 : decode cX11_readsBlock 230 = .ok (.iconst 5, 1) := by decide +kernel
theorem dX11_readsBlock_231 : decode cX11_readsBlock 231 = .ok (.iload_n 1, 1) := by decide +kernel
theorem dX11_readsBlock_232 : decode cX11_readsBlock 232 = .ok (.imul, 1) := by decide +kernel
theorem dX11_readsBlock_233 : decode cX11_readsBlock 233 = .ok (.aload_n 0, 1) := by decide +kernel
theorem dX11_readsBlock_234 : decode cX11_readsBlock 234 = .ok (.getfield 19, 3) := by decide +kernel
theorem dX11_readsBlock_237 : decode cX11_readsBlock 237 = .ok (.iload_n 1, 1) := by decide +kernel
theorem dX11_readsBlock_238 : decode cX11_readsBlock 238 = .ok (.iaload, 1) := by decide +kernel
theorem dX11_readsBlock_239 : decode cX11_readsBlock 239 = .ok (.iadd, 1) := by decide +kernel
theorem dX11_readsBlock_240 : decode cX11_readsBlock 240 = .ok (.aload_n 0, 1) := by decide +kernel
theorem dX11_readsBlock_241 : decode cX11_readsBlock 241 = .ok (.getfield 174, 3) := by decide +kernel
theorem dX11_readsBlock_244 : decode cX11_readsBlock 244 = .ok (.iastore, 1) := by decide +kernel
theorem dX11_readsBlock_245 : decode cX11_readsBlock 245 = .ok (.iload_n 2, 1) := by decide +kernel
theorem dX11_readsBlock_246 : decode cX11_readsBlock 246 = .ok (.iconst 1, 1) := by decide +kernel
theorem dX11_readsBlock_247 : decode cX11_readsBlock 247 = .ok (.aload_n 0, 1) := by decide +kernel
theorem dX11_readsBlock_248 : decode cX11_readsBlock 248 = .ok (.getfield 174, 3) := by decide +kernel
theorem dX11_readsBlock_251 : decode cX11_readsBlock 251 = .ok (.ishl, 1) := by decide +kernel
theorem dX11_readsBlock_252 : decode cX11_readsBlock 252 = .ok (.ior, 1) := by decide +kernel
theorem dX11_readsBlock_253 : decode cX11_readsBlock 253 = .ok (.istore_n 2, 1) := by decide +kernel
theorem dX11_readsBlock_254 : decode cX11_readsBlock 254 = .ok (.aload_n 0, 1) := by decide +kernel
theorem dX11_readsBlock_255 : decode cX11_readsBlock 255 = .ok (.getfield 19, 3) := by decide +kernel
theorem dX11_readsBlock_258 : decode cX11_readsBlock 258 = .ok (.iload_n 1, 1) := by decide +kernel
theorem dX11_readsBlock_259 : decode cX11_readsBlock 259 = .ok (.dup2, 1) := by decide +kernel
theorem dX11_readsBlock_260 : decode cX11_readsBlock 260 = .ok (.iaload, 1) := by decide +kernel
theorem dX11_readsBlock_261 : decode cX11_readsBlock 261 = .ok (.iconst 1, 1) := by decide +kernel
theorem dX11_readsBlock_262 : decode cX11_readsBlock 262 = .ok (.iadd, 1) := by decide +kernel
theorem dX11_readsBlock_263 : decode cX11_readsBlock 263 = .ok (.iastore, 1) := by decide +kernel
theorem dX11_readsBlock_264 : decode cX11_readsBlock 264 = .ok (.aload_n 0, 1) := by decide +kernel
theorem dX11_readsBlock_265 : decode cX11_readsBlock 265 = .ok (.invokevirtual 223, 3) := by decide +kernel
theorem dX11_readsBlock_268 : decode cX11_readsBlock 268 = .ok (.goto (-151), 3) := by decide +kernel
theorem dX11_readsBlock_271 : decode cX11_readsBlock 271 = .ok (.aload_n 0, 1) := by decide +kernel
theorem dX11_readsBlock_272 : decode cX11_readsBlock 272 = .ok (.getfield 13, 3) := by decide +kernel
theorem dX11_readsBlock_275 : decode cX11_readsBlock 275 = .ok (.iconst 4, 1) := by decide +kernel
theorem dX11_readsBlock_276 : decode cX11_readsBlock 276 = .ok (.dup2, 1) := by decide +kernel
theorem dX11_readsBlock_277 : decode cX11_readsBlock 277 = .ok (.iaload, 1) := by decide +kernel
theorem dX11_readsBlock_278 : decode cX11_readsBlock 278 = .ok (.iconst 1, 1) := by decide +kernel
theorem dX11_readsBlock_279 : decode cX11_readsBlock 279 = .ok (.iadd, 1) := by decide +kernel
theorem dX11_readsBlock_280 : decode cX11_readsBlock 280 = .ok (.iastore, 1) := by decide +kernel
theorem dX11_readsBlock_281 : decode cX11_readsBlock 281 = .ok (.aload_n 0, 1) := by decide +kernel
theorem dX11_readsBlock_282 : decode cX11_readsBlock 282 = .ok (.bipush 59, 2) := by decide +kernel
theorem dX11_readsBlock_284 : decode cX11_readsBlock 284 = .ok (.invokevirtual 212, 3) := by decide +kernel
theorem dX11_readsBlock_287 : decode cX11_readsBlock 287 = .ok (.ifCond .eq 25, 3) := by decide +kernel
theorem dX11_readsBlock_290 : decode cX11_readsBlock 290 = .ok (.aload_n 0, 1) := by decide +kernel
theorem dX11_readsBlock_291 : decode cX11_readsBlock 291 = .ok (.iconst 1, 1) := by decide +kernel
theorem dX11_readsBlock_292 : decode cX11_readsBlock 292 = .ok (.aload_n 0, 1) := by decide +kernel
theorem dX11_readsBlock_293 : decode cX11_readsBlock 293 = .ok (.getfield 13, 3) := by decide +kernel
theorem dX11_readsBlock_296 : decode cX11_readsBlock 296 = .ok (.iconst 3, 1) := by decide +kernel
theorem dX11_readsBlock_297 : decode cX11_readsBlock 297 = .ok (.iaload, 1) := by decide +kernel
theorem dX11_readsBlock_298 : decode cX11_readsBlock 298 = .ok (.invokevirtual 276, 3) := by decide +kernel
theorem dX11_readsBlock_301 : decode cX11_readsBlock 301 = .ok (.bipush 40, 2) := by decide +kernel
theorem dX11_readsBlock_303 : decode cX11_readsBlock 303 = .ok (.if_icmp .le 9, 3) := by decide +kernel
theorem dX11_readsBlock_306 : decode cX11_readsBlock 306 = .ok (.aload_n 0, 1) := by decide +kernel
theorem dX11_readsBlock_307 : decode cX11_readsBlock 307 = .ok (.iconst 5, 1) := by decide +kernel
theorem dX11_readsBlock_308 : decode cX11_readsBlock 308 = .ok (.invokevirtual 216, 3) := by decide +kernel
theorem dX11_readsBlock_311 : decode cX11_readsBlock 311 = .ok (.ireturn, 1) := by decide +kernel
theorem dX11_readsBlock_312 : decode cX11_readsBlock 312 = .ok (.aload_n 0, 1) := by decide +kernel
theorem dX11_readsBlock_313 : decode cX11_readsBlock 313 = .ok (.invokevirtual 250, 3) := by decide +kernel
theorem dX11_readsBlock_316 : decode cX11_readsBlock 316 = .ok (.ireturn, 1) := by decide +kernel
theorem dX11_begins_0 : decode cX11_begins 0 = .ok (.aload_n 0, 1) := by decide +kernel
theorem dX11_begins_1 : decode cX11_begins 1 = .ok (.aload_n 0, 1) := by decide +kernel
theorem dX11_begins_2 : decode cX11_begins 2 = .ok (.getfield 158, 3) := by decide +kernel
theorem dX11_begins_5 : decode cX11_begins 5 = .ok (.putfield 161, 3) := by decide +kernel
theorem dX11_begins_8 : decode cX11_begins 8 = .ok (.aload_n 0, 1) := by decide +kernel
theorem dX11_begins_9 : decode cX11_begins 9 = .ok (.iconst 0, 1) := by decide +kernel
theorem dX11_begins_10 : decode cX11_begins 10 = .ok (.putfield 158, 3) := by decide +kernel
theorem dX11_begins_13 : decode cX11_begins 13 = .ok (.aload_n 0, 1) := by decide +kernel
theorem dX11_begins_14 : decode cX11_begins 14 = .ok (.iconst 0, 1) := by decide +kernel
theorem dX11_begins_15 : decode cX11_begins 15 = .ok (.putfield 164, 3) := by decide +kernel
theorem dX11_begins_18 : decode cX11_begins 18 = .ok (.aload_n 0, 1) := by decide +kernel
theorem dX11_begins_19 : decode cX11_begins 19 = .ok (.invokevirtual 223, 3) := by decide +kernel
theorem dX11_begins_22 : decode cX11_begins 22 = .ok (.return_, 1) := by decide +kernel
theorem dX11_readsAll_0 : decode cX11_readsAll 0 = .ok (.iconst 0, 1) := by decide +kernel
theorem dX11_readsAll_1 : decode cX11_readsAll 1 = .ok (.istore_n 1, 1) := by decide +kernel
theorem dX11_readsAll_2 : decode cX11_readsAll 2 = .ok (.iload_n 1, 1) := by decide +kernel
theorem dX11_readsAll_3 : decode cX11_readsAll 3 = .ok (.iconst 3, 1) := by decide +kernel
theorem dX11_readsAll_4 : decode cX11_readsAll 4 = .ok (.if_icmp .ge 27, 3) := by decide +kernel
theorem dX11_readsAll_7 : decode cX11_readsAll 7 = .ok (.aload_n 0, 1) := by decide +kernel
theorem dX11_readsAll_8 : decode cX11_readsAll 8 = .ok (.getfield 13, 3) := by decide +kernel
theorem dX11_readsAll_11 : decode cX11_readsAll 11 = .ok (.iconst 3, 1) := by decide +kernel
theorem dX11_readsAll_12 : decode cX11_readsAll 12 = .ok (.iload_n 1, 1) := by decide +kernel
theorem dX11_readsAll_13 : decode cX11_readsAll 13 = .ok (.iadd, 1) := by decide +kernel
theorem dX11_readsAll_14 : decode cX11_readsAll 14 = .ok (.iload_n 1, 1) := by decide +kernel
theorem dX11_readsAll_15 : decode cX11_readsAll 15 = .ok (.iconst 2, 1) := by decide +kernel
theorem dX11_readsAll_16 : decode cX11_readsAll 16 = .ok (.if_icmp .ne 7, 3) := by decide +kernel
theorem dX11_readsAll_19 : decode cX11_readsAll 19 = .ok (.iconst 4, 1) := by decide +kernel
theorem dX11_readsAll_20 : decode cX11_readsAll 20 = .ok (.goto 4, 3) := by decide +kernel
theorem dX11_readsAll_23 : decode cX11_readsAll 23 = .ok (.iconst 0, 1) := by decide +kernel
theorem dX11_readsAll_24 : decode cX11_readsAll 24 = .ok (.iastore, 1) := by decide +kernel
theorem dX11_readsAll_25 : decode cX11_readsAll 25 = .ok (.iinc 1 1, 3) := by decide +kernel
theorem dX11_readsAll_28 : decode cX11_readsAll 28 = .ok (.goto (-26), 3) := by decide +kernel
theorem dX11_readsAll_31 : decode cX11_readsAll 31 = .ok (.aload_n 0, 1) := by decide +kernel
theorem dX11_readsAll_32 : decode cX11_readsAll 32 = .ok (.iconst 0, 1) := by decide +kernel
theorem dX11_readsAll_33 : decode cX11_readsAll 33 = .ok (.putfield 254, 3) := by decide +kernel
theorem dX11_readsAll_36 : decode cX11_readsAll 36 = .ok (.aload_n 0, 1) := by decide +kernel
theorem dX11_readsAll_37 : decode cX11_readsAll 37 = .ok (.getfield 25, 3) := by decide +kernel
theorem dX11_readsAll_40 : decode cX11_readsAll 40 = .ok (.iconst 1, 1) := by decide +kernel
theorem dX11_readsAll_41 : decode cX11_readsAll 41 = .ok (.sipush 1000, 3) := by decide +kernel
theorem dX11_readsAll_44 : decode cX11_readsAll 44 = .ok (.iastore, 1) := by decide +kernel
theorem dX11_readsAll_45 : decode cX11_readsAll 45 = .ok (.aload_n 0, 1) := by decide +kernel
theorem dX11_readsAll_46 : decode cX11_readsAll 46 = .ok (.getfield 28, 3) := by decide +kernel
theorem dX11_readsAll_49 : decode cX11_readsAll 49 = .ok (.iconst 1, 1) := by decide +kernel
theorem dX11_readsAll_50 : decode cX11_readsAll 50 = .ok (.sipush 1000, 3) := by decide +kernel
theorem dX11_readsAll_53 : decode cX11_readsAll 53 = .ok (.iastore, 1) := by decide +kernel
theorem dX11_readsAll_54 : decode cX11_readsAll 54 = .ok (.aload_n 0, 1) := by decide +kernel
theorem dX11_readsAll_55 : decode cX11_readsAll 55 = .ok (.sipush 1000, 3) := by decide +kernel
theorem dX11_readsAll_58 : decode cX11_readsAll 58 = .ok (.putfield 191, 3) := by decide +kernel
theorem dX11_readsAll_61 : decode cX11_readsAll 61 = .ok (.aload_n 0, 1) := by decide +kernel
theorem dX11_readsAll_62 : decode cX11_readsAll 62 = .ok (.invokevirtual 279, 3) := by decide +kernel
theorem dX11_readsAll_65 : decode cX11_readsAll 65 = .ok (.aload_n 0, 1) := by decide +kernel
theorem dX11_readsAll_66 : decode cX11_readsAll 66 = .ok (.getfield 177, 3) := by decide +kernel
theorem dX11_readsAll_69 : decode cX11_readsAll 69 = .ok (.ifCond .eq 86, 3) := by decide +kernel
theorem dX11_readsAll_72 : decode cX11_readsAll 72 = .ok (.aload_n 0, 1) := by decide +kernel
theorem dX11_readsAll_73 : decode cX11_readsAll 73 = .ok (.ldc2_w 282, 3) := by decide +kernel
theorem dX11_readsAll_76 : decode cX11_readsAll 76 = .ok (.invokevirtual 208, 3) := by decide +kernel
theorem dX11_readsAll_79 : decode cX11_readsAll 79 = .ok (.ifCond .eq 10, 3) := by decide +kernel
theorem dX11_readsAll_82 : decode cX11_readsAll 82 = .ok (.aload_n 0, 1) := by decide +kernel
theorem dX11_readsAll_83 : decode cX11_readsAll 83 = .ok (.invokevirtual 284, 3) := by decide +kernel
theorem dX11_readsAll_86 : decode cX11_readsAll 86 = .ok (.goto 59, 3) := by decide +kernel
theorem dX11_readsAll_89 : decode cX11_readsAll 89 = .ok (.aload_n 0, 1) := by decide +kernel
theorem dX11_readsAll_90 : decode cX11_readsAll 90 = .ok (.ldc2_w 287, 3) := by decide +kernel
theorem dX11_readsAll_93 : decode cX11_readsAll 93 = .ok (.invokevirtual 208, 3) := by decide +kernel
theorem dX11_readsAll_96 : decode cX11_readsAll 96 = .ok (.ifCond .eq 10, 3) := by decide +kernel
theorem dX11_readsAll_99 : decode cX11_readsAll 99 = .ok (.aload_n 0, 1) := by decide +kernel
theorem dX11_readsAll_100 : decode cX11_readsAll 100 = .ok (.invokevirtual 289, 3) := by decide +kernel
theorem dX11_readsAll_103 : decode cX11_readsAll 103 = .ok (.goto 42, 3) := by decide +kernel
theorem dX11_readsAll_106 : decode cX11_readsAll 106 = .ok (.aload_n 0, 1) := by decide +kernel
theorem dX11_readsAll_107 : decode cX11_readsAll 107 = .ok (.ldc2_w 292, 3) := by decide +kernel
theorem dX11_readsAll_110 : decode cX11_readsAll 110 = .ok (.invokevirtual 208, 3) := by decide +kernel
theorem dX11_readsAll_113 : decode cX11_readsAll 113 = .ok (.ifCond .eq 10, 3) := by decide +kernel
theorem dX11_readsAll_116 : decode cX11_readsAll 116 = .ok (.aload_n 0, 1) := by decide +kernel
theorem dX11_readsAll_117 : decode cX11_readsAll 117 = .ok (.invokevirtual 294, 3) := by decide +kernel
theorem dX11_readsAll_120 : decode cX11_readsAll 120 = .ok (.goto 25, 3) := by decide +kernel
theorem dX11_readsAll_123 : decode cX11_readsAll 123 = .ok (.aload_n 0, 1) := by decide +kernel
theorem dX11_readsAll_124 : decode cX11_readsAll 124 = .ok (.ldc2_w 297, 3) := by decide +kernel
theorem dX11_readsAll_127 : decode cX11_readsAll 127 = .ok (.invokevirtual 208, 3) := by decide +kernel
theorem dX11_readsAll_130 : decode cX11_readsAll 130 = .ok (.ifCond .eq 10, 3) := by decide +kernel
theorem dX11_readsAll_133 : decode cX11_readsAll 133 = .ok (.aload_n 0, 1) := by decide +kernel
theorem dX11_readsAll_134 : decode cX11_readsAll 134 = .ok (.invokevirtual 299, 3) := by decide +kernel
theorem dX11_readsAll_137 : decode cX11_readsAll 137 = .ok (.goto 8, 3) := by decide +kernel
theorem dX11_readsAll_140 : decode cX11_readsAll 140 = .ok (.aload_n 0, 1) := by decide +kernel
theorem dX11_readsAll_141 : decode cX11_readsAll 141 = .ok (.iconst 1, 1) := by decide +kernel
theorem dX11_readsAll_142 : decode cX11_readsAll 142 = .ok (.invokevirtual 216, 3) := by decide +kernel
theorem dX11_readsAll_145 : decode cX11_readsAll 145 = .ok (.istore_n 1, 1) := by decide +kernel
theorem dX11_readsAll_146 : decode cX11_readsAll 146 = .ok (.iload_n 1, 1) := by decide +kernel
theorem dX11_readsAll_147 : decode cX11_readsAll 147 = .ok (.ifCond .ne 5, 3) := by decide +kernel
theorem dX11_readsAll_150 : decode cX11_readsAll 150 = .ok (.iconst 0, 1) := by decide +kernel
theorem dX11_readsAll_151 : decode cX11_readsAll 151 = .ok (.ireturn, 1) := by decide +kernel
theorem dX11_readsAll_152 : decode cX11_readsAll 152 = .ok (.goto (-87), 3) := by decide +kernel
theorem dX11_readsAll_155 : decode cX11_readsAll 155 = .ok (.iconst 1, 1) := by decide +kernel
theorem dX11_readsAll_156 : decode cX11_readsAll 156 = .ok (.ireturn, 1) := by decide +kernel
theorem dX11_shifts_0 : decode cX11_shifts 0 = .ok (.iconst 0, 1) := by decide +kernel
theorem dX11_shifts_1 : decode cX11_shifts 1 = .ok (.istore_n 2, 1) := by decide +kernel
theorem dX11_shifts_2 : decode cX11_shifts 2 = .ok (.iload_n 2, 1) := by decide +kernel
theorem dX11_shifts_3 : decode cX11_shifts 3 = .ok (.iload_n 1, 1) := by decide +kernel
theorem dX11_shifts_4 : decode cX11_shifts 4 = .ok (.if_icmp .ge 17, 3) := by decide +kernel
theorem dX11_shifts_7 : decode cX11_shifts 7 = .ok (.aload_n 0, 1) := by decide +kernel
theorem dX11_shifts_8 : decode cX11_shifts 8 = .ok (.iload_n 2, 1) := by decide +kernel
theorem dX11_shifts_9 : decode cX11_shifts 9 = .ok (.aload_n 0, 1) := by decide +kernel
theorem dX11_shifts_10 : decode cX11_shifts 10 = .ok (.iload_n 1, 1) := by decide +kernel
theorem dX11_shifts_11 : decode cX11_shifts 11 = .ok (.iload_n 2, 1) := by decide +kernel
theorem dX11_shifts_12 : decode cX11_shifts 12 = .ok (.iadd, 1) := by decide +kernel
theorem dX11_shifts_13 : decode cX11_shifts 13 = .ok (.iaload, 1) := by decide +kernel
theorem dX11_shifts_14 : decode cX11_shifts 14 = .ok (.iastore, 1) := by decide +kernel
theorem dX11_shifts_15 : decode cX11_shifts 15 = .ok (.iinc 2 1, 3) := by decide +kernel
theorem dX11_shifts_18 : decode cX11_shifts 18 = .ok (.goto (-16), 3) := by decide +kernel
theorem dX11_shifts_21 : decode cX11_shifts 21 = .ok (.return_, 1) := by decide +kernel
theorem dX11_lays_0 : decode cX11_lays 0 = .ok (.aload_n 0, 1) := by decide +kernel
theorem dX11_lays_1 : decode cX11_lays 1 = .ok (.getfield 13, 3) := by decide +kernel
theorem dX11_lays_4 : decode cX11_lays 4 = .ok (.iconst 3, 1) := by decide +kernel
theorem dX11_lays_5 : decode cX11_lays 5 = .ok (.invokestatic 302, 3) := by decide +kernel
theorem dX11_lays_8 : decode cX11_lays 8 = .ok (.aload_n 0, 1) := by decide +kernel
theorem dX11_lays_9 : decode cX11_lays 9 = .ok (.getfield 16, 3) := by decide +kernel
theorem dX11_lays_12 : decode cX11_lays 12 = .ok (.bipush 6, 2) := by decide +kernel
theorem dX11_lays_14 : decode cX11_lays 14 = .ok (.invokestatic 302, 3) := by decide +kernel
theorem dX11_lays_17 : decode cX11_lays 17 = .ok (.aload_n 0, 1) := by decide +kernel
theorem dX11_lays_18 : decode cX11_lays 18 = .ok (.getfield 19, 3) := by decide +kernel
theorem dX11_lays_21 : decode cX11_lays 21 = .ok (.bipush 6, 2) := by decide +kernel
theorem dX11_lays_23 : decode cX11_lays 23 = .ok (.invokestatic 302, 3) := by decide +kernel
theorem dX11_lays_26 : decode cX11_lays 26 = .ok (.aload_n 0, 1) := by decide +kernel
theorem dX11_lays_27 : decode cX11_lays 27 = .ok (.getfield 22, 3) := by decide +kernel
theorem dX11_lays_30 : decode cX11_lays 30 = .ok (.bipush 30, 2) := by decide +kernel
theorem dX11_lays_32 : decode cX11_lays 32 = .ok (.invokestatic 302, 3) := by decide +kernel
theorem dX11_lays_35 : decode cX11_lays 35 = .ok (.aload_n 0, 1) := by decide +kernel
theorem dX11_lays_36 : decode cX11_lays 36 = .ok (.getfield 31, 3) := by decide +kernel
theorem dX11_lays_39 : decode cX11_lays 39 = .ok (.sipush 1000, 3) := by decide +kernel
theorem dX11_lays_42 : decode cX11_lays 42 = .ok (.invokestatic 302, 3) := by decide +kernel
theorem dX11_lays_45 : decode cX11_lays 45 = .ok (.aload_n 0, 1) := by decide +kernel
theorem dX11_lays_46 : decode cX11_lays 46 = .ok (.getfield 25, 3) := by decide +kernel
theorem dX11_lays_49 : decode cX11_lays 49 = .ok (.iconst 0, 1) := by decide +kernel
theorem dX11_lays_50 : decode cX11_lays 50 = .ok (.aload_n 0, 1) := by decide +kernel
theorem dX11_lays_51 : decode cX11_lays 51 = .ok (.getfield 25, 3) := by decide +kernel
theorem dX11_lays_54 : decode cX11_lays 54 = .ok (.iconst 1, 1) := by decide +kernel
theorem dX11_lays_55 : decode cX11_lays 55 = .ok (.iaload, 1) := by decide +kernel
theorem dX11_lays_56 : decode cX11_lays 56 = .ok (.sipush 1000, 3) := by decide +kernel
theorem dX11_lays_59 : decode cX11_lays 59 = .ok (.isub, 1) := by decide +kernel
theorem dX11_lays_60 : decode cX11_lays 60 = .ok (.iastore, 1) := by decide +kernel
theorem dX11_lays_61 : decode cX11_lays 61 = .ok (.aload_n 0, 1) := by decide +kernel
theorem dX11_lays_62 : decode cX11_lays 62 = .ok (.getfield 28, 3) := by decide +kernel
theorem dX11_lays_65 : decode cX11_lays 65 = .ok (.iconst 0, 1) := by decide +kernel
theorem dX11_lays_66 : decode cX11_lays 66 = .ok (.aload_n 0, 1) := by decide +kernel
theorem dX11_lays_67 : decode cX11_lays 67 = .ok (.getfield 28, 3) := by decide +kernel
theorem dX11_lays_70 : decode cX11_lays 70 = .ok (.iconst 1, 1) := by decide +kernel
theorem dX11_lays_71 : decode cX11_lays 71 = .ok (.iaload, 1) := by decide +kernel
theorem dX11_lays_72 : decode cX11_lays 72 = .ok (.sipush 1000, 3) := by decide +kernel
theorem dX11_lays_75 : decode cX11_lays 75 = .ok (.isub, 1) := by decide +kernel
theorem dX11_lays_76 : decode cX11_lays 76 = .ok (.iastore, 1) := by decide +kernel
theorem dX11_lays_77 : decode cX11_lays 77 = .ok (.return_, 1) := by decide +kernel
theorem dX11_laysStripe_0 : decode cX11_laysStripe 0 = .ok (.bipush 40, 2) := by decide +kernel
theorem dX11_laysStripe_2 : decode cX11_laysStripe 2 = .ok (.iload_n 1, 1) := by decide +kernel
theorem dX11_laysStripe_3 : decode cX11_laysStripe 3 = .ok (.imul, 1) := by decide +kernel
theorem dX11_laysStripe_4 : decode cX11_laysStripe 4 = .ok (.aload_n 0, 1) := by decide +kernel
theorem dX11_laysStripe_5 : decode cX11_laysStripe 5 = .ok (.getfield 71, 3) := by decide +kernel
theorem dX11_laysStripe_8 : decode cX11_laysStripe 8 = .ok (.iload_n 1, 1) := by decide +kernel
theorem dX11_laysStripe_9 : decode cX11_laysStripe 9 = .ok (.iaload, 1) := by decide +kernel
theorem dX11_laysStripe_10 : decode cX11_laysStripe 10 = .ok (.iadd, 1) := by decide +kernel
theorem dX11_laysStripe_11 : decode cX11_laysStripe 11 = .ok (.istore 6, 2) := by decide +kernel
theorem dX11_laysStripe_13 : decode cX11_laysStripe 13 = .ok (.aload_n 0, 1) := by decide +kernel
theorem dX11_laysStripe_14 : decode cX11_laysStripe 14 = .ok (.getfield 71, 3) := by decide +kernel
theorem dX11_laysStripe_17 : decode cX11_laysStripe 17 = .ok (.iload_n 1, 1) := by decide +kernel
theorem dX11_laysStripe_18 : decode cX11_laysStripe 18 = .ok (.dup2, 1) := by decide +kernel
theorem dX11_laysStripe_19 : decode cX11_laysStripe 19 = .ok (.iaload, 1) := by decide +kernel
theorem dX11_laysStripe_20 : decode cX11_laysStripe 20 = .ok (.iconst 1, 1) := by decide +kernel
theorem dX11_laysStripe_21 : decode cX11_laysStripe 21 = .ok (.iadd, 1) := by decide +kernel
theorem dX11_laysStripe_22 : decode cX11_laysStripe 22 = .ok (.iastore, 1) := by decide +kernel
theorem dX11_laysStripe_23 : decode cX11_laysStripe 23 = .ok (.aload_n 0, 1) := by decide +kernel
theorem dX11_laysStripe_24 : decode cX11_laysStripe 24 = .ok (.getfield 74, 3) := by decide +kernel
theorem dX11_laysStripe_27 : decode cX11_laysStripe 27 = .ok (.iload 6, 2) := by decide +kernel
theorem dX11_laysStripe_29 : decode cX11_laysStripe 29 = .ok (.aload_n 0, 1) := by decide +kernel
theorem dX11_laysStripe_30 : decode cX11_laysStripe 30 = .ok (.getfield 19, 3) := by decide +kernel
theorem dX11_laysStripe_33 : decode cX11_laysStripe 33 = .ok (.iload_n 2, 1) := by decide +kernel
theorem dX11_laysStripe_34 : decode cX11_laysStripe 34 = .ok (.iaload, 1) := by decide +kernel
theorem dX11_laysStripe_35 : decode cX11_laysStripe 35 = .ok (.iastore, 1) := by decide +kernel
theorem dX11_laysStripe_36 : decode cX11_laysStripe 36 = .ok (.aload_n 0, 1) := by decide +kernel
theorem dX11_laysStripe_37 : decode cX11_laysStripe 37 = .ok (.getfield 77, 3) := by decide +kernel
theorem dX11_laysStripe_40 : decode cX11_laysStripe 40 = .ok (.iload 6, 2) := by decide +kernel
theorem dX11_laysStripe_42 : decode cX11_laysStripe 42 = .ok (.iload_n 2, 1) := by decide +kernel
theorem dX11_laysStripe_43 : decode cX11_laysStripe 43 = .ok (.iastore, 1) := by decide +kernel
theorem dX11_laysStripe_44 : decode cX11_laysStripe 44 = .ok (.iconst 0, 1) := by decide +kernel
theorem dX11_laysStripe_45 : decode cX11_laysStripe 45 = .ok (.istore 7, 2) := by decide +kernel
theorem dX11_laysStripe_47 : decode cX11_laysStripe 47 = .ok (.iload 7, 2) := by decide +kernel
theorem dX11_laysStripe_49 : decode cX11_laysStripe 49 = .ok (.aload_n 0, 1) := by decide +kernel
theorem dX11_laysStripe_50 : decode cX11_laysStripe 50 = .ok (.getfield 19, 3) := by decide +kernel
theorem dX11_laysStripe_53 : decode cX11_laysStripe 53 = .ok (.iload_n 2, 1) := by decide +kernel
theorem dX11_laysStripe_54 : decode cX11_laysStripe 54 = .ok (.iaload, 1) := by decide +kernel
theorem dX11_laysStripe_55 : decode cX11_laysStripe 55 = .ok (.if_icmp .ge 56, 3) := by decide +kernel
theorem dX11_laysStripe_58 : decode cX11_laysStripe 58 = .ok (.aload_n 0, 1) := by decide +kernel
theorem dX11_laysStripe_59 : decode cX11_laysStripe 59 = .ok (.getfield 22, 3) := by decide +kernel
theorem dX11_laysStripe_62 : decode cX11_laysStripe 62 = .ok (.iconst 5, 1) := by decide +kernel
theorem dX11_laysStripe_63 : decode cX11_laysStripe 63 = .ok (.iload_n 2, 1) := by decide +kernel
theorem dX11_laysStripe_64 : decode cX11_laysStripe 64 = .ok (.imul, 1) := by decide +kernel
theorem dX11_laysStripe_65 : decode cX11_laysStripe 65 = .ok (.iload 7, 2) := by decide +kernel
theorem dX11_laysStripe_67 : decode cX11_laysStripe 67 = .ok (.iadd, 1) := by decide +kernel
theorem dX11_laysStripe_68 : decode cX11_laysStripe 68 = .ok (.iaload, 1) := by decide +kernel
theorem dX11_laysStripe_69 : decode cX11_laysStripe 69 = .ok (.iload_n 3, 1) := by decide +kernel
theorem dX11_laysStripe_70 : decode cX11_laysStripe 70 = .ok (.iadd, 1) := by decide +kernel
theorem dX11_laysStripe_71 : decode cX11_laysStripe 71 = .ok (.iload 5, 2) := by decide +kernel
theorem dX11_laysStripe_73 : decode cX11_laysStripe 73 = .ok (.irem, 1) := by decide +kernel
theorem dX11_laysStripe_74 : decode cX11_laysStripe 74 = .ok (.istore 8, 2) := by decide +kernel
theorem dX11_laysStripe_76 : decode cX11_laysStripe 76 = .ok (.aload_n 0, 1) := by decide +kernel
theorem dX11_laysStripe_77 : decode cX11_laysStripe 77 = .ok (.getfield 89, 3) := by decide +kernel
theorem dX11_laysStripe_80 : decode cX11_laysStripe 80 = .ok (.iconst 5, 1) := by decide +kernel
theorem dX11_laysStripe_81 : decode cX11_laysStripe 81 = .ok (.iload 6, 2) := by decide +kernel
theorem dX11_laysStripe_83 : decode cX11_laysStripe 83 = .ok (.imul, 1) := by decide +kernel
theorem dX11_laysStripe_84 : decode cX11_laysStripe 84 = .ok (.iload 7, 2) := by decide +kernel
theorem dX11_laysStripe_86 : decode cX11_laysStripe 86 = .ok (.iadd, 1) := by decide +kernel
theorem dX11_laysStripe_87 : decode cX11_laysStripe 87 = .ok (.iload 4, 2) := by decide +kernel
theorem dX11_laysStripe_89 : decode cX11_laysStripe 89 = .ok (.ifCond .eq 13, 3) := by decide +kernel
theorem dX11_laysStripe_92 : decode cX11_laysStripe 92 = .ok (.iload 5, 2) := by decide +kernel
theorem dX11_laysStripe_94 : decode cX11_laysStripe 94 = .ok (.iconst 1, 1) := by decide +kernel
theorem dX11_laysStripe_95 : decode cX11_laysStripe 95 = .ok (.isub, 1) := by decide +kernel
theorem dX11_laysStripe_96 : decode cX11_laysStripe 96 = .ok (.iload 8, 2) := by decide +kernel
theorem dX11_laysStripe_98 : decode cX11_laysStripe 98 = .ok (.isub, 1) := by decide +kernel
theorem dX11_laysStripe_99 : decode cX11_laysStripe 99 = .ok (.goto 5, 3) := by decide +kernel
theorem dX11_laysStripe_102 : decode cX11_laysStripe 102 = .ok (.iload 8, 2) := by decide +kernel
theorem dX11_laysStripe_104 : decode cX11_laysStripe 104 = .ok (.iastore, 1) := by decide +kernel
theorem dX11_laysStripe_105 : decode cX11_laysStripe 105 = .ok (.iinc 7 1, 3) := by decide +kernel
theorem dX11_laysStripe_108 : decode cX11_laysStripe 108 = .ok (.goto (-61), 3) := by decide +kernel
theorem dX11_laysStripe_111 : decode cX11_laysStripe 111 = .ok (.aload_n 0, 1) := by decide +kernel
theorem dX11_laysStripe_112 : decode cX11_laysStripe 112 = .ok (.getfield 68, 3) := by decide +kernel
theorem dX11_laysStripe_115 : decode cX11_laysStripe 115 = .ok (.iconst 1, 1) := by decide +kernel
theorem dX11_laysStripe_116 : decode cX11_laysStripe 116 = .ok (.aload_n 0, 1) := by decide +kernel
theorem dX11_laysStripe_117 : decode cX11_laysStripe 117 = .ok (.getfield 71, 3) := by decide +kernel
theorem dX11_laysStripe_120 : decode cX11_laysStripe 120 = .ok (.iload_n 1, 1) := by decide +kernel
theorem dX11_laysStripe_121 : decode cX11_laysStripe 121 = .ok (.iaload, 1) := by decide +kernel
theorem dX11_laysStripe_122 : decode cX11_laysStripe 122 = .ok (.iconst 1, 1) := by decide +kernel
theorem dX11_laysStripe_123 : decode cX11_laysStripe 123 = .ok (.isub, 1) := by decide +kernel
theorem dX11_laysStripe_124 : decode cX11_laysStripe 124 = .ok (.iastore, 1) := by decide +kernel
theorem dX11_laysStripe_125 : decode cX11_laysStripe 125 = .ok (.aload_n 0, 1) := by decide +kernel
theorem dX11_laysStripe_126 : decode cX11_laysStripe 126 = .ok (.getfield 68, 3) := by decide +kernel
theorem dX11_laysStripe_129 : decode cX11_laysStripe 129 = .ok (.iconst 2, 1) := by decide +kernel
theorem dX11_laysStripe_130 : decode cX11_laysStripe 130 = .ok (.aload_n 0, 1) := by decide +kernel
theorem dX11_laysStripe_131 : decode cX11_laysStripe 131 = .ok (.getfield 19, 3) := by decide +kernel
theorem dX11_laysStripe_134 : decode cX11_laysStripe 134 = .ok (.iload_n 2, 1) := by decide +kernel
theorem dX11_laysStripe_135 : decode cX11_laysStripe 135 = .ok (.iaload, 1) := by decide +kernel
theorem dX11_laysStripe_136 : decode cX11_laysStripe 136 = .ok (.iastore, 1) := by decide +kernel
theorem dX11_laysStripe_137 : decode cX11_laysStripe 137 = .ok (.aload_n 0, 1) := by decide +kernel
theorem dX11_laysStripe_138 : decode cX11_laysStripe 138 = .ok (.getfield 68, 3) := by decide +kernel
theorem dX11_laysStripe_141 : decode cX11_laysStripe 141 = .ok (.iconst 3, 1) := by decide +kernel
theorem dX11_laysStripe_142 : decode cX11_laysStripe 142 = .ok (.aload_n 0, 1) := by decide +kernel
theorem dX11_laysStripe_143 : decode cX11_laysStripe 143 = .ok (.getfield 89, 3) := by decide +kernel
theorem dX11_laysStripe_146 : decode cX11_laysStripe 146 = .ok (.iconst 5, 1) := by decide +kernel
theorem dX11_laysStripe_147 : decode cX11_laysStripe 147 = .ok (.iload 6, 2) := by decide +kernel
theorem dX11_laysStripe_149 : decode cX11_laysStripe 149 = .ok (.imul, 1) := by decide +kernel
theorem dX11_laysStripe_150 : decode cX11_laysStripe 150 = .ok (.iaload, 1) := by decide +kernel
theorem dX11_laysStripe_151 : decode cX11_laysStripe 151 = .ok (.iastore, 1) := by decide +kernel
theorem dX11_laysStripe_152 : decode cX11_laysStripe 152 = .ok (.aload_n 0, 1) := by decide +kernel
theorem dX11_laysStripe_153 : decode cX11_laysStripe 153 = .ok (.getfield 68, 3) := by decide +kernel
theorem dX11_laysStripe_156 : decode cX11_laysStripe 156 = .ok (.iconst 4, 1) := by decide +kernel
theorem dX11_laysStripe_157 : decode cX11_laysStripe 157 = .ok (.iload_n 2, 1) := by decide +kernel
theorem dX11_laysStripe_158 : decode cX11_laysStripe 158 = .ok (.iastore, 1) := by decide +kernel
theorem dX11_laysStripe_159 : decode cX11_laysStripe 159 = .ok (.aload_n 0, 1) := by decide +kernel
theorem dX11_laysStripe_160 : decode cX11_laysStripe 160 = .ok (.getfield 28, 3) := by decide +kernel
theorem dX11_laysStripe_163 : decode cX11_laysStripe 163 = .ok (.iconst 0, 1) := by decide +kernel
theorem dX11_laysStripe_164 : decode cX11_laysStripe 164 = .ok (.iaload, 1) := by decide +kernel
theorem dX11_laysStripe_165 : decode cX11_laysStripe 165 = .ok (.aload_n 0, 1) := by decide +kernel
theorem dX11_laysStripe_166 : decode cX11_laysStripe 166 = .ok (.getfield 25, 3) := by decide +kernel
theorem dX11_laysStripe_169 : decode cX11_laysStripe 169 = .ok (.iconst 0, 1) := by decide +kernel
theorem dX11_laysStripe_170 : decode cX11_laysStripe 170 = .ok (.iaload, 1) := by decide +kernel
theorem dX11_laysStripe_171 : decode cX11_laysStripe 171 = .ok (.if_icmp .le 11, 3) := by decide +kernel
theorem dX11_laysStripe_174 : decode cX11_laysStripe 174 = .ok (.aload_n 0, 1) := by decide +kernel
theorem dX11_laysStripe_175 : decode cX11_laysStripe 175 = .ok (.iconst 0, 1) := by decide +kernel
theorem dX11_laysStripe_176 : decode cX11_laysStripe 176 = .ok (.invokevirtual 306, 3) := by decide +kernel
theorem dX11_laysStripe_179 : decode cX11_laysStripe 179 = .ok (.goto 9, 3) := by decide +kernel
theorem dX11_laysStripe_182 : decode cX11_laysStripe 182 = .ok (.aload_n 0, 1) := by decide +kernel
theorem dX11_laysStripe_183 : decode cX11_laysStripe 183 = .ok (.getfield 68, 3) := by decide +kernel
theorem dX11_laysStripe_186 : decode cX11_laysStripe 186 = .ok (.iconst 1, 1) := by decide +kernel
theorem dX11_laysStripe_187 : decode cX11_laysStripe 187 = .ok (.iaload, 1) := by decide +kernel
theorem dX11_laysStripe_188 : decode cX11_laysStripe 188 = .ok (.istore 7, 2) := by decide +kernel
theorem dX11_laysStripe_190 : decode cX11_laysStripe 190 = .ok (.aload_n 0, 1) := by decide +kernel
theorem dX11_laysStripe_191 : decode cX11_laysStripe 191 = .ok (.getfield 80, 3) := by decide +kernel
theorem dX11_laysStripe_194 : decode cX11_laysStripe 194 = .ok (.iload 6, 2) := by decide +kernel
theorem dX11_laysStripe_196 : decode cX11_laysStripe 196 = .ok (.iload 7, 2) := by decide +kernel
theorem dX11_laysStripe_198 : decode cX11_laysStripe 198 = .ok (.aload_n 0, 1) := by decide +kernel
theorem dX11_laysStripe_199 : decode cX11_laysStripe 199 = .ok (.getfield 19, 3) := by decide +kernel
theorem dX11_laysStripe_202 : decode cX11_laysStripe 202 = .ok (.iload_n 2, 1) := by decide +kernel
theorem dX11_laysStripe_203 : decode cX11_laysStripe 203 = .ok (.iaload, 1) := by decide +kernel
theorem dX11_laysStripe_204 : decode cX11_laysStripe 204 = .ok (.irem, 1) := by decide +kernel
theorem dX11_laysStripe_205 : decode cX11_laysStripe 205 = .ok (.aload_n 0, 1) := by decide +kernel
theorem dX11_laysStripe_206 : decode cX11_laysStripe 206 = .ok (.getfield 19, 3) := by decide +kernel
theorem dX11_laysStripe_209 : decode cX11_laysStripe 209 = .ok (.iload_n 2, 1) := by decide +kernel
theorem dX11_laysStripe_210 : decode cX11_laysStripe 210 = .ok (.iaload, 1) := by decide +kernel
theorem dX11_laysStripe_211 : decode cX11_laysStripe 211 = .ok (.iadd, 1) := by decide +kernel
theorem dX11_laysStripe_212 : decode cX11_laysStripe 212 = .ok (.aload_n 0, 1) := by decide +kernel
theorem dX11_laysStripe_213 : decode cX11_laysStripe 213 = .ok (.getfield 19, 3) := by decide +kernel
theorem dX11_laysStripe_216 : decode cX11_laysStripe 216 = .ok (.iload_n 2, 1) := by decide +kernel
theorem dX11_laysStripe_217 : decode cX11_laysStripe 217 = .ok (.iaload, 1) := by decide +kernel
theorem dX11_laysStripe_218 : decode cX11_laysStripe 218 = .ok (.irem, 1) := by decide +kernel
theorem dX11_laysStripe_219 : decode cX11_laysStripe 219 = .ok (.iastore, 1) := by decide +kernel
theorem dX11_laysStripe_220 : decode cX11_laysStripe 220 = .ok (.return_, 1) := by decide +kernel
theorem dX11_unitOn_0 : decode cX11_unitOn 0 = .ok (.iconst 0, 1) := by decide +kernel
theorem dX11_unitOn_1 : decode cX11_unitOn 1 = .ok (.istore_n 3, 1) := by decide +kernel
theorem dX11_unitOn_2 : decode cX11_unitOn 2 = .ok (.iload_n 3, 1) := by decide +kernel
theorem dX11_unitOn_3 : decode cX11_unitOn 3 = .ok (.aload_n 0, 1) := by decide +kernel
theorem dX11_unitOn_4 : decode cX11_unitOn 4 = .ok (.getfield 74, 3) := by decide +kernel
theorem dX11_unitOn_7 : decode cX11_unitOn 7 = .ok (.iload_n 1, 1) := by decide +kernel
theorem dX11_unitOn_8 : decode cX11_unitOn 8 = .ok (.iaload, 1) := by decide +kernel
theorem dX11_unitOn_9 : decode cX11_unitOn 9 = .ok (.if_icmp .ge 25, 3) := by decide +kernel
theorem dX11_unitOn_12 : decode cX11_unitOn 12 = .ok (.aload_n 0, 1) := by decide +kernel
theorem dX11_unitOn_13 : decode cX11_unitOn 13 = .ok (.getfield 89, 3) := by decide +kernel
theorem dX11_unitOn_16 : decode cX11_unitOn 16 = .ok (.iconst 5, 1) := by decide +kernel
theorem dX11_unitOn_17 : decode cX11_unitOn 17 = .ok (.iload_n 1, 1) := by decide +kernel
theorem dX11_unitOn_18 : decode cX11_unitOn 18 = .ok (.imul, 1) := by decide +kernel
theorem dX11_unitOn_19 : decode cX11_unitOn 19 = .ok (.iload_n 3, 1) := by decide +kernel
theorem dX11_unitOn_20 : decode cX11_unitOn 20 = .ok (.iadd, 1) := by decide +kernel
theorem dX11_unitOn_21 : decode cX11_unitOn 21 = .ok (.iaload, 1) := by decide +kernel
theorem dX11_unitOn_22 : decode cX11_unitOn 22 = .ok (.iload_n 2, 1) := by decide +kernel
theorem dX11_unitOn_23 : decode cX11_unitOn 23 = .ok (.if_icmp .ne 5, 3) := by decide +kernel
theorem dX11_unitOn_26 : decode cX11_unitOn 26 = .ok (.iload_n 3, 1) := by decide +kernel
theorem dX11_unitOn_27 : decode cX11_unitOn 27 = .ok (.ireturn, 1) := by decide +kernel
theorem dX11_unitOn_28 : decode cX11_unitOn 28 = .ok (.iinc 3 1, 3) := by decide +kernel
theorem dX11_unitOn_31 : decode cX11_unitOn 31 = .ok (.goto (-29), 3) := by decide +kernel
theorem dX11_unitOn_34 : decode cX11_unitOn 34 = .ok (.iconst (-1), 1) := by decide +kernel
theorem dX11_unitOn_35 : decode cX11_unitOn 35 = .ok (.ireturn, 1) := by decide +kernel
theorem dX11_unitsOn_0 : decode cX11_unitsOn 0 = .ok (.iconst 0, 1) := by decide +kernel
theorem dX11_unitsOn_1 : decode cX11_unitsOn 1 = .ok (.istore 4, 2) := by decide +kernel
theorem dX11_unitsOn_3 : decode cX11_unitsOn 3 = .ok (.bipush 40, 2) := by decide +kernel
theorem dX11_unitsOn_5 : decode cX11_unitsOn 5 = .ok (.iload_n 1, 1) := by decide +kernel
theorem dX11_unitsOn_6 : decode cX11_unitsOn 6 = .ok (.imul, 1) := by decide +kernel
theorem dX11_unitsOn_7 : decode cX11_unitsOn 7 = .ok (.istore 5, 2) := by decide +kernel
theorem dX11_unitsOn_9 : decode cX11_unitsOn 9 = .ok (.iload 5, 2) := by decide +kernel
theorem dX11_unitsOn_11 : decode cX11_unitsOn 11 = .ok (.bipush 40, 2) := by decide +kernel
theorem dX11_unitsOn_13 : decode cX11_unitsOn 13 = .ok (.iload_n 1, 1) := by decide +kernel
theorem dX11_unitsOn_14 : decode cX11_unitsOn 14 = .ok (.imul, 1) := by decide +kernel
theorem dX11_unitsOn_15 : decode cX11_unitsOn 15 = .ok (.iload_n 3, 1) := by decide +kernel
theorem dX11_unitsOn_16 : decode cX11_unitsOn 16 = .ok (.iadd, 1) := by decide +kernel
theorem dX11_unitsOn_17 : decode cX11_unitsOn 17 = .ok (.if_icmp .ge 29, 3) := by decide +kernel
theorem dX11_unitsOn_20 : decode cX11_unitsOn 20 = .ok (.iload 4, 2) := by decide +kernel
theorem dX11_unitsOn_22 : decode cX11_unitsOn 22 = .ok (.aload_n 0, 1) := by decide +kernel
theorem dX11_unitsOn_23 : decode cX11_unitsOn 23 = .ok (.iload 5, 2) := by decide +kernel
theorem dX11_unitsOn_25 : decode cX11_unitsOn 25 = .ok (.iload_n 2, 1) := by decide +kernel
theorem dX11_unitsOn_26 : decode cX11_unitsOn 26 = .ok (.invokevirtual 309, 3) := by decide +kernel
theorem dX11_unitsOn_29 : decode cX11_unitsOn 29 = .ok (.ifCond .lt 7, 3) := by decide +kernel
theorem dX11_unitsOn_32 : decode cX11_unitsOn 32 = .ok (.iconst 1, 1) := by decide +kernel
theorem dX11_unitsOn_33 : decode cX11_unitsOn 33 = .ok (.goto 4, 3) := by decide +kernel
theorem dX11_unitsOn_36 : decode cX11_unitsOn 36 = .ok (.iconst 0, 1) := by decide +kernel
theorem dX11_unitsOn_37 : decode cX11_unitsOn 37 = .ok (.iadd, 1) := by decide +kernel
theorem dX11_unitsOn_38 : decode cX11_unitsOn 38 = .ok (.istore 4, 2) := by decide +kernel
theorem dX11_unitsOn_40 : decode cX11_unitsOn 40 = .ok (.iinc 5 1, 3) := by decide +kernel
theorem dX11_unitsOn_43 : decode cX11_unitsOn 43 = .ok (.goto (-34), 3) := by decide +kernel
theorem dX11_unitsOn_46 : decode cX11_unitsOn 46 = .ok (.iload 4, 2) := by decide +kernel
theorem dX11_unitsOn_48 : decode cX11_unitsOn 48 = .ok (.ireturn, 1) := by decide +kernel
theorem dX11_sparesOn_0 : decode cX11_sparesOn 0 = .ok (.iconst 0, 1) := by decide +kernel
theorem dX11_sparesOn_1 : decode cX11_sparesOn 1 = .ok (.istore 4, 2) := by decide +kernel
theorem dX11_sparesOn_3 : decode cX11_sparesOn 3 = .ok (.bipush 40, 2) := by decide +kernel
theorem dX11_sparesOn_5 : decode cX11_sparesOn 5 = .ok (.iload_n 1, 1) := by decide +kernel
theorem dX11_sparesOn_6 : decode cX11_sparesOn 6 = .ok (.imul, 1) := by decide +kernel
theorem dX11_sparesOn_7 : decode cX11_sparesOn 7 = .ok (.istore 5, 2) := by decide +kernel
theorem dX11_sparesOn_9 : decode cX11_sparesOn 9 = .ok (.iload 5, 2) := by decide +kernel
theorem dX11_sparesOn_11 : decode cX11_sparesOn 11 = .ok (.bipush 40, 2) := by decide +kernel
theorem dX11_sparesOn_13 : decode cX11_sparesOn 13 = .ok (.iload_n 1, 1) := by decide +kernel
theorem dX11_sparesOn_14 : decode cX11_sparesOn 14 = .ok (.imul, 1) := by decide +kernel
theorem dX11_sparesOn_15 : decode cX11_sparesOn 15 = .ok (.iload_n 3, 1) := by decide +kernel
theorem dX11_sparesOn_16 : decode cX11_sparesOn 16 = .ok (.iadd, 1) := by decide +kernel
theorem dX11_sparesOn_17 : decode cX11_sparesOn 17 = .ok (.if_icmp .ge 30, 3) := by decide +kernel
theorem dX11_sparesOn_20 : decode cX11_sparesOn 20 = .ok (.iload 4, 2) := by decide +kernel
theorem dX11_sparesOn_22 : decode cX11_sparesOn 22 = .ok (.aload_n 0, 1) := by decide +kernel
theorem dX11_sparesOn_23 : decode cX11_sparesOn 23 = .ok (.getfield 83, 3) := by decide +kernel
theorem dX11_sparesOn_26 : decode cX11_sparesOn 26 = .ok (.iload 5, 2) := by decide +kernel
theorem dX11_sparesOn_28 : decode cX11_sparesOn 28 = .ok (.iaload, 1) := by decide +kernel
theorem dX11_sparesOn_29 : decode cX11_sparesOn 29 = .ok (.iload_n 2, 1) := by decide +kernel
theorem dX11_sparesOn_30 : decode cX11_sparesOn 30 = .ok (.if_icmp .ne 7, 3) := by decide +kernel
theorem dX11_sparesOn_33 : decode cX11_sparesOn 33 = .ok (.iconst 1, 1) := by decide +kernel
theorem dX11_sparesOn_34 : decode cX11_sparesOn 34 = .ok (.goto 4, 3) := by decide +kernel
theorem dX11_sparesOn_37 : decode cX11_sparesOn 37 = .ok (.iconst 0, 1) := by decide +kernel
theorem dX11_sparesOn_38 : decode cX11_sparesOn 38 = .ok (.iadd, 1) := by decide +kernel
theorem dX11_sparesOn_39 : decode cX11_sparesOn 39 = .ok (.istore 4, 2) := by decide +kernel
theorem dX11_sparesOn_41 : decode cX11_sparesOn 41 = .ok (.iinc 5 1, 3) := by decide +kernel
theorem dX11_sparesOn_44 : decode cX11_sparesOn 44 = .ok (.goto (-35), 3) := by decide +kernel
theorem dX11_sparesOn_47 : decode cX11_sparesOn 47 = .ok (.iload 4, 2) := by decide +kernel
theorem dX11_sparesOn_49 : decode cX11_sparesOn 49 = .ok (.ireturn, 1) := by decide +kernel
theorem dX11_laysSpare_0 : decode cX11_laysSpare 0 = .ok (.bipush 40, 2) := by decide +kernel
theorem dX11_laysSpare_2 : decode cX11_laysSpare 2 = .ok (.iload_n 1, 1) := by decide +kernel
theorem dX11_laysSpare_3 : decode cX11_laysSpare 3 = .ok (.imul, 1) := by decide +kernel
theorem dX11_laysSpare_4 : decode cX11_laysSpare 4 = .ok (.iload_n 2, 1) := by decide +kernel
theorem dX11_laysSpare_5 : decode cX11_laysSpare 5 = .ok (.iadd, 1) := by decide +kernel
theorem dX11_laysSpare_6 : decode cX11_laysSpare 6 = .ok (.istore 4, 2) := by decide +kernel
theorem dX11_laysSpare_8 : decode cX11_laysSpare 8 = .ok (.aload_n 0, 1) := by decide +kernel
theorem dX11_laysSpare_9 : decode cX11_laysSpare 9 = .ok (.getfield 83, 3) := by decide +kernel
theorem dX11_laysSpare_12 : decode cX11_laysSpare 12 = .ok (.iload 4, 2) := by decide +kernel
theorem dX11_laysSpare_14 : decode cX11_laysSpare 14 = .ok (.iconst (-1), 1) := by decide +kernel
theorem dX11_laysSpare_15 : decode cX11_laysSpare 15 = .ok (.iastore, 1) := by decide +kernel
theorem dX11_laysSpare_16 : decode cX11_laysSpare 16 = .ok (.iconst (-1), 1) := by decide +kernel
theorem dX11_laysSpare_17 : decode cX11_laysSpare 17 = .ok (.istore 5, 2) := by decide +kernel
theorem dX11_laysSpare_19 : decode cX11_laysSpare 19 = .ok (.iconst 0, 1) := by decide +kernel
theorem dX11_laysSpare_20 : decode cX11_laysSpare 20 = .ok (.istore 6, 2) := by decide +kernel
theorem dX11_laysSpare_22 : decode cX11_laysSpare 22 = .ok (.iload 6, 2) := by decide +kernel
theorem dX11_laysSpare_24 : decode cX11_laysSpare 24 = .ok (.iload_n 3, 1) := by decide +kernel
theorem dX11_laysSpare_25 : decode cX11_laysSpare 25 = .ok (.if_icmp .ge 48, 3) := by decide +kernel
theorem dX11_laysSpare_28 : decode cX11_laysSpare 28 = .ok (.aload_n 0, 1) := by decide +kernel
theorem dX11_laysSpare_29 : decode cX11_laysSpare 29 = .ok (.iload 4, 2) := by decide +kernel
theorem dX11_laysSpare_31 : decode cX11_laysSpare 31 = .ok (.iload 6, 2) := by decide +kernel
theorem dX11_laysSpare_33 : decode cX11_laysSpare 33 = .ok (.invokevirtual 309, 3) := by decide +kernel
theorem dX11_laysSpare_36 : decode cX11_laysSpare 36 = .ok (.ifCond .ge 31, 3) := by decide +kernel
theorem dX11_laysSpare_39 : decode cX11_laysSpare 39 = .ok (.iload 5, 2) := by decide +kernel
theorem dX11_laysSpare_41 : decode cX11_laysSpare 41 = .ok (.ifCond .lt 22, 3) := by decide +kernel
theorem dX11_laysSpare_44 : decode cX11_laysSpare 44 = .ok (.aload_n 0, 1) := by decide +kernel
theorem dX11_laysSpare_45 : decode cX11_laysSpare 45 = .ok (.iload_n 1, 1) := by decide +kernel
theorem dX11_laysSpare_46 : decode cX11_laysSpare 46 = .ok (.iload 6, 2) := by decide +kernel
theorem dX11_laysSpare_48 : decode cX11_laysSpare 48 = .ok (.iload_n 2, 1) := by decide +kernel
theorem dX11_laysSpare_49 : decode cX11_laysSpare 49 = .ok (.invokevirtual 312, 3) := by decide +kernel
theorem dX11_laysSpare_52 : decode cX11_laysSpare 52 = .ok (.aload_n 0, 1) := by decide +kernel
theorem dX11_laysSpare_53 : decode cX11_laysSpare 53 = .ok (.iload_n 1, 1) := by decide +kernel
theorem dX11_laysSpare_54 : decode cX11_laysSpare 54 = .ok (.iload 5, 2) := by decide +kernel
theorem dX11_laysSpare_56 : decode cX11_laysSpare 56 = .ok (.iload_n 2, 1) := by decide +kernel
theorem dX11_laysSpare_57 : decode cX11_laysSpare 57 = .ok (.invokevirtual 312, 3) := by decide +kernel
theorem dX11_laysSpare_60 : decode cX11_laysSpare 60 = .ok (.if_icmp .ge 7, 3) := by decide +kernel
theorem dX11_laysSpare_63 : decode cX11_laysSpare 63 = .ok (.iload 6, 2) := by decide +kernel
theorem dX11_laysSpare_65 : decode cX11_laysSpare 65 = .ok (.istore 5, 2) := by decide +kernel
theorem dX11_laysSpare_67 : decode cX11_laysSpare 67 = .ok (.iinc 6 1, 3) := by decide +kernel
theorem dX11_laysSpare_70 : decode cX11_laysSpare 70 = .ok (.goto (-48), 3) := by decide +kernel
theorem dX11_laysSpare_73 : decode cX11_laysSpare 73 = .ok (.aload_n 0, 1) := by decide +kernel
theorem dX11_laysSpare_74 : decode cX11_laysSpare 74 = .ok (.getfield 83, 3) := by decide +kernel
theorem dX11_laysSpare_77 : decode cX11_laysSpare 77 = .ok (.iload 4, 2) := by decide +kernel
theorem dX11_laysSpare_79 : decode cX11_laysSpare 79 = .ok (.iload 5, 2) := by decide +kernel
theorem dX11_laysSpare_81 : decode cX11_laysSpare 81 = .ok (.iastore, 1) := by decide +kernel
theorem dX11_laysSpare_82 : decode cX11_laysSpare 82 = .ok (.aload_n 0, 1) := by decide +kernel
theorem dX11_laysSpare_83 : decode cX11_laysSpare 83 = .ok (.getfield 86, 3) := by decide +kernel
theorem dX11_laysSpare_86 : decode cX11_laysSpare 86 = .ok (.iload 4, 2) := by decide +kernel
theorem dX11_laysSpare_88 : decode cX11_laysSpare 88 = .ok (.iload 5, 2) := by decide +kernel
theorem dX11_laysSpare_90 : decode cX11_laysSpare 90 = .ok (.ifCond .ge 7, 3) := by decide +kernel
theorem dX11_laysSpare_93 : decode cX11_laysSpare 93 = .ok (.iconst (-1), 1) := by decide +kernel
theorem dX11_laysSpare_94 : decode cX11_laysSpare 94 = .ok (.goto 25, 3) := by decide +kernel
theorem dX11_laysSpare_97 : decode cX11_laysSpare 97 = .ok (.aload_n 0, 1) := by decide +kernel
theorem dX11_laysSpare_98 : decode cX11_laysSpare 98 = .ok (.iload_n 1, 1) := by decide +kernel
theorem dX11_laysSpare_99 : decode cX11_laysSpare 99 = .ok (.iload 5, 2) := by decide +kernel
theorem dX11_laysSpare_101 : decode cX11_laysSpare 101 = .ok (.aload_n 0, 1) := by decide +kernel
theorem dX11_laysSpare_102 : decode cX11_laysSpare 102 = .ok (.getfield 71, 3) := by decide +kernel
theorem dX11_laysSpare_105 : decode cX11_laysSpare 105 = .ok (.iload_n 1, 1) := by decide +kernel
theorem dX11_laysSpare_106 : decode cX11_laysSpare 106 = .ok (.iaload, 1) := by decide +kernel
theorem dX11_laysSpare_107 : decode cX11_laysSpare 107 = .ok (.invokevirtual 316, 3) := by decide +kernel
theorem dX11_laysSpare_110 : decode cX11_laysSpare 110 = .ok (.aload_n 0, 1) := by decide +kernel
theorem dX11_laysSpare_111 : decode cX11_laysSpare 111 = .ok (.iload_n 1, 1) := by decide +kernel
theorem dX11_laysSpare_112 : decode cX11_laysSpare 112 = .ok (.iload 5, 2) := by decide +kernel
theorem dX11_laysSpare_114 : decode cX11_laysSpare 114 = .ok (.iload_n 2, 1) := by decide +kernel
theorem dX11_laysSpare_115 : decode cX11_laysSpare 115 = .ok (.invokevirtual 312, 3) := by decide +kernel
theorem dX11_laysSpare_118 : decode cX11_laysSpare 118 = .ok (.iadd, 1) := by decide +kernel
theorem dX11_laysSpare_119 : decode cX11_laysSpare 119 = .ok (.iastore, 1) := by decide +kernel
theorem dX11_laysSpare_120 : decode cX11_laysSpare 120 = .ok (.return_, 1) := by decide +kernel
theorem dX11_laysAll_0 : decode cX11_laysAll 0 = .ok (.aload_n 0, 1) := by decide +kernel
theorem dX11_laysAll_1 : decode cX11_laysAll 1 = .ok (.getfield 71, 3) := by decide +kernel
theorem dX11_laysAll_4 : decode cX11_laysAll 4 = .ok (.iload_n 1, 1) := by decide +kernel
theorem dX11_laysAll_5 : decode cX11_laysAll 5 = .ok (.iconst 0, 1) := by decide +kernel
theorem dX11_laysAll_6 : decode cX11_laysAll 6 = .ok (.iastore, 1) := by decide +kernel
theorem dX11_laysAll_7 : decode cX11_laysAll 7 = .ok (.aload_n 0, 1) := by decide +kernel
theorem dX11_laysAll_8 : decode cX11_laysAll 8 = .ok (.getfield 98, 3) := by decide +kernel
theorem dX11_laysAll_11 : decode cX11_laysAll 11 = .ok (.iload_n 1, 1) := by decide +kernel
theorem dX11_laysAll_12 : decode cX11_laysAll 12 = .ok (.iconst 0, 1) := by decide +kernel
theorem dX11_laysAll_13 : decode cX11_laysAll 13 = .ok (.iastore, 1) := by decide +kernel
theorem dX11_laysAll_14 : decode cX11_laysAll 14 = .ok (.iconst 0, 1) := by decide +kernel
theorem dX11_laysAll_15 : decode cX11_laysAll 15 = .ok (.istore_n 3, 1) := by decide +kernel
theorem dX11_laysAll_16 : decode cX11_laysAll 16 = .ok (.iload_n 3, 1) := by decide +kernel
theorem dX11_laysAll_17 : decode cX11_laysAll 17 = .ok (.aload_n 0, 1) := by decide +kernel
theorem dX11_laysAll_18 : decode cX11_laysAll 18 = .ok (.getfield 13, 3) := by decide +kernel
theorem dX11_laysAll_21 : decode cX11_laysAll 21 = .ok (.iconst 1, 1) := by decide +kernel
theorem dX11_laysAll_22 : decode cX11_laysAll 22 = .ok (.iaload, 1) := by decide +kernel
theorem dX11_laysAll_23 : decode cX11_laysAll 23 = .ok (.if_icmp .ge 77, 3) := by decide +kernel
theorem dX11_laysAll_26 : decode cX11_laysAll 26 = .ok (.iconst 0, 1) := by decide +kernel
theorem dX11_laysAll_27 : decode cX11_laysAll 27 = .ok (.istore 4, 2) := by decide +kernel
theorem dX11_laysAll_29 : decode cX11_laysAll 29 = .ok (.iload 4, 2) := by decide +kernel
theorem dX11_laysAll_31 : decode cX11_laysAll 31 = .ok (.aload_n 0, 1) := by decide +kernel
theorem dX11_laysAll_32 : decode cX11_laysAll 32 = .ok (.getfield 16, 3) := by decide +kernel
theorem dX11_laysAll_35 : decode cX11_laysAll 35 = .ok (.iload_n 3, 1) := by decide +kernel
theorem dX11_laysAll_36 : decode cX11_laysAll 36 = .ok (.iaload, 1) := by decide +kernel
theorem dX11_laysAll_37 : decode cX11_laysAll 37 = .ok (.iload_n 2, 1) := by decide +kernel
theorem dX11_laysAll_38 : decode cX11_laysAll 38 = .ok (.invokestatic 261, 3) := by decide +kernel
theorem dX11_laysAll_41 : decode cX11_laysAll 41 = .ok (.if_icmp .ge 53, 3) := by decide +kernel
theorem dX11_laysAll_44 : decode cX11_laysAll 44 = .ok (.aload_n 0, 1) := by decide +kernel
theorem dX11_laysAll_45 : decode cX11_laysAll 45 = .ok (.iload_n 1, 1) := by decide +kernel
theorem dX11_laysAll_46 : decode cX11_laysAll 46 = .ok (.iload_n 3, 1) := by decide +kernel
theorem dX11_laysAll_47 : decode cX11_laysAll 47 = .ok (.aload_n 0, 1) := by decide +kernel
theorem dX11_laysAll_48 : decode cX11_laysAll 48 = .ok (.getfield 16, 3) := by decide +kernel
theorem dX11_laysAll_51 : decode cX11_laysAll 51 = .ok (.iload_n 3, 1) := by decide +kernel
theorem dX11_laysAll_52 : decode cX11_laysAll 52 = .ok (.iaload, 1) := by decide +kernel
theorem dX11_laysAll_53 : decode cX11_laysAll 53 = .ok (.iconst 1, 1) := by decide +kernel
theorem dX11_laysAll_54 : decode cX11_laysAll 54 = .ok (.if_icmp .ne 8, 3) := by decide +kernel
theorem dX11_laysAll_57 : decode cX11_laysAll 57 = .ok (.iload 4, 2) := by decide +kernel
theorem dX11_laysAll_59 : decode cX11_laysAll 59 = .ok (.goto 4, 3) := by decide +kernel
theorem dX11_laysAll_62 : decode cX11_laysAll 62 = .ok (.iconst 0, 1) := by decide +kernel
theorem dX11_laysAll_63 : decode cX11_laysAll 63 = .ok (.aload_n 0, 1) := by decide +kernel
theorem dX11_laysAll_64 : decode cX11_laysAll 64 = .ok (.getfield 16, 3) := by decide +kernel
theorem dX11_laysAll_67 : decode cX11_laysAll 67 = .ok (.iload_n 3, 1) := by decide +kernel
theorem dX11_laysAll_68 : decode cX11_laysAll 68 = .ok (.iaload, 1) := by decide +kernel
theorem dX11_laysAll_69 : decode cX11_laysAll 69 = .ok (.iconst 2, 1) := by decide +kernel
theorem dX11_laysAll_70 : decode cX11_laysAll 70 = .ok (.if_icmp .ne 13, 3) := by decide +kernel
theorem dX11_laysAll_73 : decode cX11_laysAll 73 = .ok (.iload 4, 2) := by decide +kernel
theorem dX11_laysAll_75 : decode cX11_laysAll 75 = .ok (.iconst 1, 1) := by decide +kernel
theorem dX11_laysAll_76 : decode cX11_laysAll 76 = .ok (.if_icmp .ne 7, 3) := by decide +kernel
theorem dX11_laysAll_79 : decode cX11_laysAll 79 = .ok (.iconst 1, 1) := by decide +kernel
theorem dX11_laysAll_80 : decode cX11_laysAll 80 = .ok (.goto 4, 3) := by decide +kernel
theorem dX11_laysAll_83 : decode cX11_laysAll 83 = .ok (.iconst 0, 1) := by decide +kernel
theorem dX11_laysAll_84 : decode cX11_laysAll 84 = .ok (.iload_n 2, 1) := by decide +kernel
theorem dX11_laysAll_85 : decode cX11_laysAll 85 = .ok (.invokevirtual 319, 3) := by decide +kernel
theorem dX11_laysAll_88 : decode cX11_laysAll 88 = .ok (.iinc 4 1, 3) := by decide +kernel
theorem dX11_laysAll_91 : decode cX11_laysAll 91 = .ok (.goto (-62), 3) := by decide +kernel
theorem dX11_laysAll_94 : decode cX11_laysAll 94 = .ok (.iinc 3 1, 3) := by decide +kernel
theorem dX11_laysAll_97 : decode cX11_laysAll 97 = .ok (.goto (-81), 3) := by decide +kernel
theorem dX11_laysAll_100 : decode cX11_laysAll 100 = .ok (.iconst 0, 1) := by decide +kernel
theorem dX11_laysAll_101 : decode cX11_laysAll 101 = .ok (.istore_n 3, 1) := by decide +kernel
theorem dX11_laysAll_102 : decode cX11_laysAll 102 = .ok (.iload_n 3, 1) := by decide +kernel
theorem dX11_laysAll_103 : decode cX11_laysAll 103 = .ok (.aload_n 0, 1) := by decide +kernel
theorem dX11_laysAll_104 : decode cX11_laysAll 104 = .ok (.getfield 71, 3) := by decide +kernel
theorem dX11_laysAll_107 : decode cX11_laysAll 107 = .ok (.iload_n 1, 1) := by decide +kernel
theorem dX11_laysAll_108 : decode cX11_laysAll 108 = .ok (.iaload, 1) := by decide +kernel
theorem dX11_laysAll_109 : decode cX11_laysAll 109 = .ok (.if_icmp .ge 148, 3) := by decide +kernel
theorem dX11_laysAll_112 : decode cX11_laysAll 112 = .ok (.bipush 40, 2) := by decide +kernel
theorem dX11_laysAll_114 : decode cX11_laysAll 114 = .ok (.iload_n 1, 1) := by decide +kernel
theorem dX11_laysAll_115 : decode cX11_laysAll 115 = .ok (.imul, 1) := by decide +kernel
theorem dX11_laysAll_116 : decode cX11_laysAll 116 = .ok (.iload_n 3, 1) := by decide +kernel
theorem dX11_laysAll_117 : decode cX11_laysAll 117 = .ok (.iadd, 1) := by decide +kernel
theorem dX11_laysAll_118 : decode cX11_laysAll 118 = .ok (.istore 4, 2) := by decide +kernel
theorem dX11_laysAll_120 : decode cX11_laysAll 120 = .ok (.iconst 0, 1) := by decide +kernel
theorem dX11_laysAll_121 : decode cX11_laysAll 121 = .ok (.istore 5, 2) := by decide +kernel
theorem dX11_laysAll_123 : decode cX11_laysAll 123 = .ok (.iload 5, 2) := by decide +kernel
theorem dX11_laysAll_125 : decode cX11_laysAll 125 = .ok (.aload_n 0, 1) := by decide +kernel
theorem dX11_laysAll_126 : decode cX11_laysAll 126 = .ok (.getfield 74, 3) := by decide +kernel
theorem dX11_laysAll_129 : decode cX11_laysAll 129 = .ok (.iload 4, 2) := by decide +kernel
theorem dX11_laysAll_131 : decode cX11_laysAll 131 = .ok (.iaload, 1) := by decide +kernel
theorem dX11_laysAll_132 : decode cX11_laysAll 132 = .ok (.if_icmp .ge 119, 3) := by decide +kernel
theorem dX11_laysAll_135 : decode cX11_laysAll 135 = .ok (.aload_n 0, 1) := by decide +kernel
theorem dX11_laysAll_136 : decode cX11_laysAll 136 = .ok (.getfield 92, 3) := by decide +kernel
theorem dX11_laysAll_139 : decode cX11_laysAll 139 = .ok (.iconst 5, 1) := by decide +kernel
theorem dX11_laysAll_140 : decode cX11_laysAll 140 = .ok (.iload 4, 2) := by decide +kernel
theorem dX11_laysAll_142 : decode cX11_laysAll 142 = .ok (.imul, 1) := by decide +kernel
theorem dX11_laysAll_143 : decode cX11_laysAll 143 = .ok (.iload 5, 2) := by decide +kernel
theorem dX11_laysAll_145 : decode cX11_laysAll 145 = .ok (.iadd, 1) := by decide +kernel
theorem dX11_laysAll_146 : decode cX11_laysAll 146 = .ok (.aload_n 0, 1) := by decide +kernel
theorem dX11_laysAll_147 : decode cX11_laysAll 147 = .ok (.iload_n 1, 1) := by decide +kernel
theorem dX11_laysAll_148 : decode cX11_laysAll 148 = .ok (.aload_n 0, 1) := by decide +kernel
theorem dX11_laysAll_149 : decode cX11_laysAll 149 = .ok (.getfield 89, 3) := by decide +kernel
theorem dX11_laysAll_152 : decode cX11_laysAll 152 = .ok (.iconst 5, 1) := by decide +kernel
theorem dX11_laysAll_153 : decode cX11_laysAll 153 = .ok (.iload 4, 2) := by decide +kernel
theorem dX11_laysAll_155 : decode cX11_laysAll 155 = .ok (.imul, 1) := by decide +kernel
theorem dX11_laysAll_156 : decode cX11_laysAll 156 = .ok (.iload 5, 2) := by decide +kernel
theorem dX11_laysAll_158 : decode cX11_laysAll 158 = .ok (.iadd, 1) := by decide +kernel
theorem dX11_laysAll_159 : decode cX11_laysAll 159 = .ok (.iaload, 1) := by decide +kernel
theorem dX11_laysAll_160 : decode cX11_laysAll 160 = .ok (.iload_n 3, 1) := by decide +kernel
theorem dX11_laysAll_161 : decode cX11_laysAll 161 = .ok (.invokevirtual 316, 3) := by decide +kernel
theorem dX11_laysAll_164 : decode cX11_laysAll 164 = .ok (.iastore, 1) := by decide +kernel
theorem dX11_laysAll_165 : decode cX11_laysAll 165 = .ok (.aload_n 0, 1) := by decide +kernel
theorem dX11_laysAll_166 : decode cX11_laysAll 166 = .ok (.getfield 101, 3) := by decide +kernel
theorem dX11_laysAll_169 : decode cX11_laysAll 169 = .ok (.iconst 5, 1) := by decide +kernel
theorem dX11_laysAll_170 : decode cX11_laysAll 170 = .ok (.iload 4, 2) := by decide +kernel
theorem dX11_laysAll_172 : decode cX11_laysAll 172 = .ok (.imul, 1) := by decide +kernel
theorem dX11_laysAll_173 : decode cX11_laysAll 173 = .ok (.iload 5, 2) := by decide +kernel
theorem dX11_laysAll_175 : decode cX11_laysAll 175 = .ok (.iadd, 1) := by decide +kernel
theorem dX11_laysAll_176 : decode cX11_laysAll 176 = .ok (.iconst (-1), 1) := by decide +kernel
theorem dX11_laysAll_177 : decode cX11_laysAll 177 = .ok (.iastore, 1) := by decide +kernel
theorem dX11_laysAll_178 : decode cX11_laysAll 178 = .ok (.iload 5, 2) := by decide +kernel
theorem dX11_laysAll_180 : decode cX11_laysAll 180 = .ok (.aload_n 0, 1) := by decide +kernel
theorem dX11_laysAll_181 : decode cX11_laysAll 181 = .ok (.getfield 80, 3) := by decide +kernel
theorem dX11_laysAll_184 : decode cX11_laysAll 184 = .ok (.iload 4, 2) := by decide +kernel
theorem dX11_laysAll_186 : decode cX11_laysAll 186 = .ok (.iaload, 1) := by decide +kernel
theorem dX11_laysAll_187 : decode cX11_laysAll 187 = .ok (.if_icmp .ne 6, 3) := by decide +kernel
theorem dX11_laysAll_190 : decode cX11_laysAll 190 = .ok (.goto 55, 3) := by decide +kernel
theorem dX11_laysAll_193 : decode cX11_laysAll 193 = .ok (.aload_n 0, 1) := by decide +kernel
theorem dX11_laysAll_194 : decode cX11_laysAll 194 = .ok (.getfield 101, 3) := by decide +kernel
theorem dX11_laysAll_197 : decode cX11_laysAll 197 = .ok (.iconst 5, 1) := by decide +kernel
theorem dX11_laysAll_198 : decode cX11_laysAll 198 = .ok (.iload 4, 2) := by decide +kernel
theorem dX11_laysAll_200 : decode cX11_laysAll 200 = .ok (.imul, 1) := by decide +kernel
theorem dX11_laysAll_201 : decode cX11_laysAll 201 = .ok (.iload 5, 2) := by decide +kernel
theorem dX11_laysAll_203 : decode cX11_laysAll 203 = .ok (.iadd, 1) := by decide +kernel
theorem dX11_laysAll_204 : decode cX11_laysAll 204 = .ok (.aload_n 0, 1) := by decide +kernel
theorem dX11_laysAll_205 : decode cX11_laysAll 205 = .ok (.getfield 98, 3) := by decide +kernel
theorem dX11_laysAll_208 : decode cX11_laysAll 208 = .ok (.iload_n 1, 1) := by decide +kernel
theorem dX11_laysAll_209 : decode cX11_laysAll 209 = .ok (.iaload, 1) := by decide +kernel
theorem dX11_laysAll_210 : decode cX11_laysAll 210 = .ok (.iastore, 1) := by decide +kernel
theorem dX11_laysAll_211 : decode cX11_laysAll 211 = .ok (.aload_n 0, 1) := by decide +kernel
theorem dX11_laysAll_212 : decode cX11_laysAll 212 = .ok (.getfield 95, 3) := by decide +kernel
theorem dX11_laysAll_215 : decode cX11_laysAll 215 = .ok (.sipush 160, 3) := by decide +kernel
theorem dX11_laysAll_218 : decode cX11_laysAll 218 = .ok (.iload_n 1, 1) := by decide +kernel
theorem dX11_laysAll_219 : decode cX11_laysAll 219 = .ok (.imul, 1) := by decide +kernel
theorem dX11_laysAll_220 : decode cX11_laysAll 220 = .ok (.aload_n 0, 1) := by decide +kernel
theorem dX11_laysAll_221 : decode cX11_laysAll 221 = .ok (.getfield 98, 3) := by decide +kernel
theorem dX11_laysAll_224 : decode cX11_laysAll 224 = .ok (.iload_n 1, 1) := by decide +kernel
theorem dX11_laysAll_225 : decode cX11_laysAll 225 = .ok (.iaload, 1) := by decide +kernel
theorem dX11_laysAll_226 : decode cX11_laysAll 226 = .ok (.iadd, 1) := by decide +kernel
theorem dX11_laysAll_227 : decode cX11_laysAll 227 = .ok (.iconst 5, 1) := by decide +kernel
theorem dX11_laysAll_228 : decode cX11_laysAll 228 = .ok (.iload 4, 2) := by decide +kernel
theorem dX11_laysAll_230 : decode cX11_laysAll 230 = .ok (.imul, 1) := by decide +kernel
theorem dX11_laysAll_231 : decode cX11_laysAll 231 = .ok (.iload 5, 2) := by decide +kernel
theorem dX11_laysAll_233 : decode cX11_laysAll 233 = .ok (.iadd, 1) := by decide +kernel
theorem dX11_laysAll_234 : decode cX11_laysAll 234 = .ok (.iastore, 1) := by decide +kernel
theorem dX11_laysAll_235 : decode cX11_laysAll 235 = .ok (.aload_n 0, 1) := by decide +kernel
theorem dX11_laysAll_236 : decode cX11_laysAll 236 = .ok (.getfield 98, 3) := by decide +kernel
theorem dX11_laysAll_239 : decode cX11_laysAll 239 = .ok (.iload_n 1, 1) := by decide +kernel
theorem dX11_laysAll_240 : decode cX11_laysAll 240 = .ok (.dup2, 1) := by decide +kernel
theorem dX11_laysAll_241 : decode cX11_laysAll 241 = .ok (.iaload, 1) := by decide +kernel
theorem dX11_laysAll_242 : decode cX11_laysAll 242 = .ok (.iconst 1, 1) := by decide +kernel
theorem dX11_laysAll_243 : decode cX11_laysAll 243 = .ok (.iadd, 1) := by decide +kernel
theorem dX11_laysAll_244 : decode cX11_laysAll 244 = .ok (.iastore, 1) := by decide +kernel
theorem dX11_laysAll_245 : decode cX11_laysAll 245 = .ok (.iinc 5 1, 3) := by decide +kernel
theorem dX11_laysAll_248 : decode cX11_laysAll 248 = .ok (.goto (-125), 3) := by decide +kernel
theorem dX11_laysAll_251 : decode cX11_laysAll 251 = .ok (.iinc 3 1, 3) := by decide +kernel
theorem dX11_laysAll_254 : decode cX11_laysAll 254 = .ok (.goto (-152), 3) := by decide +kernel
theorem dX11_laysAll_257 : decode cX11_laysAll 257 = .ok (.iconst 0, 1) := by decide +kernel
theorem dX11_laysAll_258 : decode cX11_laysAll 258 = .ok (.istore_n 3, 1) := by decide +kernel
theorem dX11_laysAll_259 : decode cX11_laysAll 259 = .ok (.iload_n 3, 1) := by decide +kernel
theorem dX11_laysAll_260 : decode cX11_laysAll 260 = .ok (.aload_n 0, 1) := by decide +kernel
theorem dX11_laysAll_261 : decode cX11_laysAll 261 = .ok (.getfield 71, 3) := by decide +kernel
theorem dX11_laysAll_264 : decode cX11_laysAll 264 = .ok (.iload_n 1, 1) := by decide +kernel
theorem dX11_laysAll_265 : decode cX11_laysAll 265 = .ok (.iaload, 1) := by decide +kernel
theorem dX11_laysAll_266 : decode cX11_laysAll 266 = .ok (.if_icmp .ge 16, 3) := by decide +kernel
theorem dX11_laysAll_269 : decode cX11_laysAll 269 = .ok (.aload_n 0, 1) := by decide +kernel
theorem dX11_laysAll_270 : decode cX11_laysAll 270 = .ok (.iload_n 1, 1) := by decide +kernel
theorem dX11_laysAll_271 : decode cX11_laysAll 271 = .ok (.iload_n 3, 1) := by decide +kernel
theorem dX11_laysAll_272 : decode cX11_laysAll 272 = .ok (.iload_n 2, 1) := by decide +kernel
theorem dX11_laysAll_273 : decode cX11_laysAll 273 = .ok (.invokevirtual 323, 3) := by decide +kernel
theorem dX11_laysAll_276 : decode cX11_laysAll 276 = .ok (.iinc 3 1, 3) := by decide +kernel
theorem dX11_laysAll_279 : decode cX11_laysAll 279 = .ok (.goto (-20), 3) := by decide +kernel
theorem dX11_laysAll_282 : decode cX11_laysAll 282 = .ok (.return_, 1) := by decide +kernel
theorem dX11_copies_0 : decode cX11_copies 0 = .ok (.iconst 0, 1) := by decide +kernel
theorem dX11_copies_1 : decode cX11_copies 1 = .ok (.istore 4, 2) := by decide +kernel
theorem dX11_copies_3 : decode cX11_copies 3 = .ok (.iload 4, 2) := by decide +kernel
theorem dX11_copies_5 : decode cX11_copies 5 = .ok (.sipush 374, 3) := by decide +kernel
theorem dX11_copies_8 : decode cX11_copies 8 = .ok (.if_icmp .ge 21, 3) := by decide +kernel
theorem dX11_copies_11 : decode cX11_copies 11 = .ok (.aload_n 2, 1) := by decide +kernel
theorem dX11_copies_12 : decode cX11_copies 12 = .ok (.iload_n 3, 1) := by decide +kernel
theorem dX11_copies_13 : decode cX11_copies 13 = .ok (.iload 4, 2) := by decide +kernel
theorem dX11_copies_15 : decode cX11_copies 15 = .ok (.iadd, 1) := by decide +kernel
theorem dX11_copies_16 : decode cX11_copies 16 = .ok (.aload_n 0, 1) := by decide +kernel
theorem dX11_copies_17 : decode cX11_copies 17 = .ok (.iload_n 1, 1) := by decide +kernel
theorem dX11_copies_18 : decode cX11_copies 18 = .ok (.iload 4, 2) := by decide +kernel
theorem dX11_copies_20 : decode cX11_copies 20 = .ok (.iadd, 1) := by decide +kernel
theorem dX11_copies_21 : decode cX11_copies 21 = .ok (.iaload, 1) := by decide +kernel
theorem dX11_copies_22 : decode cX11_copies 22 = .ok (.iastore, 1) := by decide +kernel
theorem dX11_copies_23 : decode cX11_copies 23 = .ok (.iinc 4 1, 3) := by decide +kernel
theorem dX11_copies_26 : decode cX11_copies 26 = .ok (.goto (-23), 3) := by decide +kernel
theorem dX11_copies_29 : decode cX11_copies 29 = .ok (.return_, 1) := by decide +kernel
theorem dX11_readsLine_0 : decode cX11_readsLine 0 = .ok (.aload_n 0, 1) := by decide +kernel
theorem dX11_readsLine_1 : decode cX11_readsLine 1 = .ok (.ldc2_w 327, 3) := by decide +kernel
theorem dX11_readsLine_4 : decode cX11_readsLine 4 = .ok (.invokevirtual 208, 3) := by decide +kernel
theorem dX11_readsLine_7 : decode cX11_readsLine 7 = .ok (.ifCond .eq 7, 3) := by decide +kernel
theorem dX11_readsLine_10 : decode cX11_readsLine 10 = .ok (.iconst 0, 1) := by decide +kernel
theorem dX11_readsLine_11 : decode cX11_readsLine 11 = .ok (.goto 74, 3) := by decide +kernel
theorem dX11_readsLine_14 : decode cX11_readsLine 14 = .ok (.aload_n 0, 1) := by decide +kernel
theorem dX11_readsLine_15 : decode cX11_readsLine 15 = .ok (.ldc2_w 329, 3) := by decide +kernel
theorem dX11_readsLine_18 : decode cX11_readsLine 18 = .ok (.invokevirtual 208, 3) := by decide +kernel
theorem dX11_readsLine_21 : decode cX11_readsLine 21 = .ok (.ifCond .eq 7, 3) := by decide +kernel
theorem dX11_readsLine_24 : decode cX11_readsLine 24 = .ok (.iconst 1, 1) := by decide +kernel
theorem dX11_readsLine_25 : decode cX11_readsLine 25 = .ok (.goto 60, 3) := by decide +kernel
theorem dX11_readsLine_28 : decode cX11_readsLine 28 = .ok (.aload_n 0, 1) := by decide +kernel
theorem dX11_readsLine_29 : decode cX11_readsLine 29 = .ok (.ldc2_w 331, 3) := by decide +kernel
theorem dX11_readsLine_32 : decode cX11_readsLine 32 = .ok (.invokevirtual 208, 3) := by decide +kernel
theorem dX11_readsLine_35 : decode cX11_readsLine 35 = .ok (.ifCond .eq 7, 3) := by decide +kernel
theorem dX11_readsLine_38 : decode cX11_readsLine 38 = .ok (.iconst 2, 1) := by decide +kernel
theorem dX11_readsLine_39 : decode cX11_readsLine 39 = .ok (.goto 46, 3) := by decide +kernel
theorem dX11_readsLine_42 : decode cX11_readsLine 42 = .ok (.aload_n 0, 1) := by decide +kernel
theorem dX11_readsLine_43 : decode cX11_readsLine 43 = .ok (.ldc2_w 333, 3) := by decide +kernel
theorem dX11_readsLine_46 : decode cX11_readsLine 46 = .ok (.invokevirtual 208, 3) := by decide +kernel
theorem dX11_readsLine_49 : decode cX11_readsLine 49 = .ok (.ifCond .eq 7, 3) := by decide +kernel
theorem dX11_readsLine_52 : decode cX11_readsLine 52 = .ok (.iconst 3, 1) := by decide +kernel
theorem dX11_readsLine_53 : decode cX11_readsLine 53 = .ok (.goto 32, 3) := by decide +kernel
theorem dX11_readsLine_56 : decode cX11_readsLine 56 = .ok (.aload_n 0, 1) := by decide +kernel
theorem dX11_readsLine_57 : decode cX11_readsLine 57 = .ok (.ldc2_w 335, 3) := by decide +kernel
theorem dX11_readsLine_60 : decode cX11_readsLine 60 = .ok (.invokevirtual 208, 3) := by decide +kernel
theorem dX11_readsLine_63 : decode cX11_readsLine 63 = .ok (.ifCond .eq 7, 3) := by decide +kernel
theorem dX11_readsLine_66 : decode cX11_readsLine 66 = .ok (.iconst 4, 1) := by decide +kernel
theorem dX11_readsLine_67 : decode cX11_readsLine 67 = .ok (.goto 18, 3) := by decide +kernel
theorem dX11_readsLine_70 : decode cX11_readsLine 70 = .ok (.aload_n 0, 1) := by decide +kernel
theorem dX11_readsLine_71 : decode cX11_readsLine 71 = .ok (.ldc2_w 337, 3) := by decide +kernel
theorem dX11_readsLine_74 : decode cX11_readsLine 74 = .ok (.invokevirtual 208, 3) := by decide +kernel
theorem dX11_readsLine_77 : decode cX11_readsLine 77 = .ok (.ifCond .eq 7, 3) := by decide +kernel
theorem dX11_readsLine_80 : decode cX11_readsLine 80 = .ok (.iconst 5, 1) := by decide +kernel
theorem dX11_readsLine_81 : decode cX11_readsLine 81 = .ok (.goto 4, 3) := by decide +kernel
theorem dX11_readsLine_84 : decode cX11_readsLine 84 = .ok (.iconst (-1), 1) := by decide +kernel
theorem dX11_readsLine_85 : decode cX11_readsLine 85 = .ok (.istore_n 1, 1) := by decide +kernel
theorem dX11_readsLine_86 : decode cX11_readsLine 86 = .ok (.iload_n 1, 1) := by decide +kernel
theorem dX11_readsLine_87 : decode cX11_readsLine 87 = .ok (.ifCond .ge 9, 3) := by decide +kernel
theorem dX11_readsLine_90 : decode cX11_readsLine 90 = .ok (.aload_n 0, 1) := by decide +kernel
theorem dX11_readsLine_91 : decode cX11_readsLine 91 = .ok (.iconst 1, 1) := by decide +kernel
theorem dX11_readsLine_92 : decode cX11_readsLine 92 = .ok (.invokevirtual 216, 3) := by decide +kernel
theorem dX11_readsLine_95 : decode cX11_readsLine 95 = .ok (.ireturn, 1) := by decide +kernel
theorem dX11_readsLine_96 : decode cX11_readsLine 96 = .ok (.aload_n 0, 1) := by decide +kernel
theorem dX11_readsLine_97 : decode cX11_readsLine 97 = .ok (.getfield 104, 3) := by decide +kernel
theorem dX11_readsLine_100 : decode cX11_readsLine 100 = .ok (.iconst 3, 1) := by decide +kernel
theorem dX11_readsLine_101 : decode cX11_readsLine 101 = .ok (.iaload, 1) := by decide +kernel
theorem dX11_readsLine_102 : decode cX11_readsLine 102 = .ok (.bipush 40, 2) := by decide +kernel
theorem dX11_readsLine_104 : decode cX11_readsLine 104 = .ok (.if_icmp .ne 9, 3) := by decide +kernel
theorem dX11_readsLine_107 : decode cX11_readsLine 107 = .ok (.aload_n 0, 1) := by decide +kernel
theorem dX11_readsLine_108 : decode cX11_readsLine 108 = .ok (.iconst 5, 1) := by decide +kernel
theorem dX11_readsLine_109 : decode cX11_readsLine 109 = .ok (.invokevirtual 216, 3) := by decide +kernel
theorem dX11_readsLine_112 : decode cX11_readsLine 112 = .ok (.ireturn, 1) := by decide +kernel
theorem dX11_readsLine_113 : decode cX11_readsLine 113 = .ok (.aload_n 0, 1) := by decide +kernel
theorem dX11_readsLine_114 : decode cX11_readsLine 114 = .ok (.invokevirtual 223, 3) := by decide +kernel
theorem dX11_readsLine_117 : decode cX11_readsLine 117 = .ok (.bipush 120, 2) := by decide +kernel
theorem dX11_readsLine_119 : decode cX11_readsLine 119 = .ok (.aload_n 0, 1) := by decide +kernel
theorem dX11_readsLine_120 : decode cX11_readsLine 120 = .ok (.getfield 104, 3) := by decide +kernel
theorem dX11_readsLine_123 : decode cX11_readsLine 123 = .ok (.iconst 3, 1) := by decide +kernel
theorem dX11_readsLine_124 : decode cX11_readsLine 124 = .ok (.iaload, 1) := by decide +kernel
theorem dX11_readsLine_125 : decode cX11_readsLine 125 = .ok (.iadd, 1) := by decide +kernel
theorem dX11_readsLine_126 : decode cX11_readsLine 126 = .ok (.istore_n 2, 1) := by decide +kernel
theorem dX11_readsLine_127 : decode cX11_readsLine 127 = .ok (.aload_n 0, 1) := by decide +kernel
theorem dX11_readsLine_128 : decode cX11_readsLine 128 = .ok (.getfield 107, 3) := by decide +kernel
theorem dX11_readsLine_131 : decode cX11_readsLine 131 = .ok (.iload_n 2, 1) := by decide +kernel
theorem dX11_readsLine_132 : decode cX11_readsLine 132 = .ok (.iload_n 1, 1) := by decide +kernel
theorem dX11_readsLine_133 : decode cX11_readsLine 133 = .ok (.iastore, 1) := by decide +kernel
theorem dX11_readsLine_134 : decode cX11_readsLine 134 = .ok (.iload_n 1, 1) := by decide +kernel
theorem dX11_readsLine_135 : decode cX11_readsLine 135 = .ok (.iconst 2, 1) := by decide +kernel
theorem dX11_readsLine_136 : decode cX11_readsLine 136 = .ok (.if_icmp .ge 19, 3) := by decide +kernel
theorem dX11_readsLine_139 : decode cX11_readsLine 139 = .ok (.aload_n 0, 1) := by decide +kernel
theorem dX11_readsLine_140 : decode cX11_readsLine 140 = .ok (.iconst 0, 1) := by decide +kernel
theorem dX11_readsLine_141 : decode cX11_readsLine 141 = .ok (.aload_n 0, 1) := by decide +kernel
theorem dX11_readsLine_142 : decode cX11_readsLine 142 = .ok (.getfield 98, 3) := by decide +kernel
theorem dX11_readsLine_145 : decode cX11_readsLine 145 = .ok (.iconst 0, 1) := by decide +kernel
theorem dX11_readsLine_146 : decode cX11_readsLine 146 = .ok (.iaload, 1) := by decide +kernel
theorem dX11_readsLine_147 : decode cX11_readsLine 147 = .ok (.iconst 1, 1) := by decide +kernel
theorem dX11_readsLine_148 : decode cX11_readsLine 148 = .ok (.isub, 1) := by decide +kernel
theorem dX11_readsLine_149 : decode cX11_readsLine 149 = .ok (.invokevirtual 246, 3) := by decide +kernel
theorem dX11_readsLine_152 : decode cX11_readsLine 152 = .ok (.goto 31, 3) := by decide +kernel
theorem dX11_readsLine_155 : decode cX11_readsLine 155 = .ok (.iload_n 1, 1) := by decide +kernel
theorem dX11_readsLine_156 : decode cX11_readsLine 156 = .ok (.iconst 4, 1) := by decide +kernel
theorem dX11_readsLine_157 : decode cX11_readsLine 157 = .ok (.if_icmp .ge 19, 3) := by decide +kernel
theorem dX11_readsLine_160 : decode cX11_readsLine 160 = .ok (.aload_n 0, 1) := by decide +kernel
theorem dX11_readsLine_161 : decode cX11_readsLine 161 = .ok (.iconst 0, 1) := by decide +kernel
theorem dX11_readsLine_162 : decode cX11_readsLine 162 = .ok (.aload_n 0, 1) := by decide +kernel
theorem dX11_readsLine_163 : decode cX11_readsLine 163 = .ok (.getfield 13, 3) := by decide +kernel
theorem dX11_readsLine_166 : decode cX11_readsLine 166 = .ok (.iconst 0, 1) := by decide +kernel
theorem dX11_readsLine_167 : decode cX11_readsLine 167 = .ok (.iaload, 1) := by decide +kernel
theorem dX11_readsLine_168 : decode cX11_readsLine 168 = .ok (.iconst 1, 1) := by decide +kernel
theorem dX11_readsLine_169 : decode cX11_readsLine 169 = .ok (.isub, 1) := by decide +kernel
theorem dX11_readsLine_170 : decode cX11_readsLine 170 = .ok (.invokevirtual 246, 3) := by decide +kernel
theorem dX11_readsLine_173 : decode cX11_readsLine 173 = .ok (.goto 10, 3) := by decide +kernel
theorem dX11_readsLine_176 : decode cX11_readsLine 176 = .ok (.aload_n 0, 1) := by decide +kernel
theorem dX11_readsLine_177 : decode cX11_readsLine 177 = .ok (.iconst 1, 1) := by decide +kernel
theorem dX11_readsLine_178 : decode cX11_readsLine 178 = .ok (.bipush 40, 2) := by decide +kernel
theorem dX11_readsLine_180 : decode cX11_readsLine 180 = .ok (.invokevirtual 246, 3) := by decide +kernel
theorem dX11_readsLine_183 : decode cX11_readsLine 183 = .ok (.istore_n 3, 1) := by decide +kernel
theorem dX11_readsLine_184 : decode cX11_readsLine 184 = .ok (.iload_n 3, 1) := by decide +kernel
theorem dX11_readsLine_185 : decode cX11_readsLine 185 = .ok (.ifCond .ne 5, 3) := by decide +kernel
theorem dX11_readsLine_188 : decode cX11_readsLine 188 = .ok (.iconst 0, 1) := by decide +kernel
theorem dX11_readsLine_189 : decode cX11_readsLine 189 = .ok (.ireturn, 1) := by decide +kernel
theorem dX11_readsLine_190 : decode cX11_readsLine 190 = .ok (.aload_n 0, 1) := by decide +kernel
theorem dX11_readsLine_191 : decode cX11_readsLine 191 = .ok (.getfield 110, 3) := by decide +kernel
theorem dX11_readsLine_194 : decode cX11_readsLine 194 = .ok (.iload_n 2, 1) := by decide +kernel
theorem dX11_readsLine_195 : decode cX11_readsLine 195 = .ok (.aload_n 0, 1) := by decide +kernel
theorem dX11_readsLine_196 : decode cX11_readsLine 196 = .ok (.getfield 243, 3) := by decide +kernel
theorem dX11_readsLine_199 : decode cX11_readsLine 199 = .ok (.iastore, 1) := by decide +kernel
theorem dX11_readsLine_200 : decode cX11_readsLine 200 = .ok (.iload_n 1, 1) := by decide +kernel
theorem dX11_readsLine_201 : decode cX11_readsLine 201 = .ok (.iconst 1, 1) := by decide +kernel
theorem dX11_readsLine_202 : decode cX11_readsLine 202 = .ok (.if_icmp .ne 26, 3) := by decide +kernel
theorem dX11_readsLine_205 : decode cX11_readsLine 205 = .ok (.aload_n 0, 1) := by decide +kernel
theorem dX11_readsLine_206 : decode cX11_readsLine 206 = .ok (.iconst 0, 1) := by decide +kernel
theorem dX11_readsLine_207 : decode cX11_readsLine 207 = .ok (.sipush 255, 3) := by decide +kernel
theorem dX11_readsLine_210 : decode cX11_readsLine 210 = .ok (.invokevirtual 246, 3) := by decide +kernel
theorem dX11_readsLine_213 : decode cX11_readsLine 213 = .ok (.ifCond .ne 5, 3) := by decide +kernel
theorem dX11_readsLine_216 : decode cX11_readsLine 216 = .ok (.iconst 0, 1) := by decide +kernel
theorem dX11_readsLine_217 : decode cX11_readsLine 217 = .ok (.ireturn, 1) := by decide +kernel
theorem dX11_readsLine_218 : decode cX11_readsLine 218 = .ok (.aload_n 0, 1) := by decide +kernel
theorem dX11_readsLine_219 : decode cX11_readsLine 219 = .ok (.getfield 113, 3) := by decide +kernel
theorem dX11_readsLine_222 : decode cX11_readsLine 222 = .ok (.iload_n 2, 1) := by decide +kernel
theorem dX11_readsLine_223 : decode cX11_readsLine 223 = .ok (.aload_n 0, 1) := by decide +kernel
theorem dX11_readsLine_224 : decode cX11_readsLine 224 = .ok (.getfield 243, 3) := by decide +kernel
theorem dX11_readsLine_227 : decode cX11_readsLine 227 = .ok (.iastore, 1) := by decide +kernel
theorem dX11_readsLine_228 : decode cX11_readsLine 228 = .ok (.aload_n 0, 1) := by decide +kernel
theorem dX11_readsLine_229 : decode cX11_readsLine 229 = .ok (.getfield 104, 3) := by decide +kernel
theorem dX11_readsLine_232 : decode cX11_readsLine 232 = .ok (.iconst 3, 1) := by decide +kernel
theorem dX11_readsLine_233 : decode cX11_readsLine 233 = .ok (.dup2, 1) := by decide +kernel
theorem dX11_readsLine_234 : decode cX11_readsLine 234 = .ok (.iaload, 1) := by decide +kernel
theorem dX11_readsLine_235 : decode cX11_readsLine 235 = .ok (.iconst 1, 1) := by decide +kernel
theorem dX11_readsLine_236 : decode cX11_readsLine 236 = .ok (.iadd, 1) := by decide +kernel
theorem dX11_readsLine_237 : decode cX11_readsLine 237 = .ok (.iastore, 1) := by decide +kernel
theorem dX11_readsLine_238 : decode cX11_readsLine 238 = .ok (.aload_n 0, 1) := by decide +kernel
theorem dX11_readsLine_239 : decode cX11_readsLine 239 = .ok (.invokevirtual 250, 3) := by decide +kernel
theorem dX11_readsLine_242 : decode cX11_readsLine 242 = .ok (.ireturn, 1) := by decide +kernel
theorem dX11_laysLines_0 : decode cX11_laysLines 0 = .ok (.aload_n 0, 1) := by decide +kernel
theorem dX11_laysLines_1 : decode cX11_laysLines 1 = .ok (.getfield 104, 3) := by decide +kernel
theorem dX11_laysLines_4 : decode cX11_laysLines 4 = .ok (.iload_n 2, 1) := by decide +kernel
theorem dX11_laysLines_5 : decode cX11_laysLines 5 = .ok (.aload_n 0, 1) := by decide +kernel
theorem dX11_laysLines_6 : decode cX11_laysLines 6 = .ok (.getfield 104, 3) := by decide +kernel
theorem dX11_laysLines_9 : decode cX11_laysLines 9 = .ok (.iload_n 1, 1) := by decide +kernel
theorem dX11_laysLines_10 : decode cX11_laysLines 10 = .ok (.iaload, 1) := by decide +kernel
theorem dX11_laysLines_11 : decode cX11_laysLines 11 = .ok (.iastore, 1) := by decide +kernel
theorem dX11_laysLines_12 : decode cX11_laysLines 12 = .ok (.iconst 0, 1) := by decide +kernel
theorem dX11_laysLines_13 : decode cX11_laysLines 13 = .ok (.istore_n 3, 1) := by decide +kernel
theorem dX11_laysLines_14 : decode cX11_laysLines 14 = .ok (.iload_n 3, 1) := by decide +kernel
theorem dX11_laysLines_15 : decode cX11_laysLines 15 = .ok (.bipush 40, 2) := by decide +kernel
theorem dX11_laysLines_17 : decode cX11_laysLines 17 = .ok (.if_icmp .ge 75, 3) := by decide +kernel
theorem dX11_laysLines_20 : decode cX11_laysLines 20 = .ok (.aload_n 0, 1) := by decide +kernel
theorem dX11_laysLines_21 : decode cX11_laysLines 21 = .ok (.getfield 107, 3) := by decide +kernel
theorem dX11_laysLines_24 : decode cX11_laysLines 24 = .ok (.bipush 40, 2) := by decide +kernel
theorem dX11_laysLines_26 : decode cX11_laysLines 26 = .ok (.iload_n 2, 1) := by decide +kernel
theorem dX11_laysLines_27 : decode cX11_laysLines 27 = .ok (.imul, 1) := by decide +kernel
theorem dX11_laysLines_28 : decode cX11_laysLines 28 = .ok (.iload_n 3, 1) := by decide +kernel
theorem dX11_laysLines_29 : decode cX11_laysLines 29 = .ok (.iadd, 1) := by decide +kernel
theorem dX11_laysLines_30 : decode cX11_laysLines 30 = .ok (.aload_n 0, 1) := by decide +kernel
theorem dX11_laysLines_31 : decode cX11_laysLines 31 = .ok (.getfield 107, 3) := by decide +kernel
theorem dX11_laysLines_34 : decode cX11_laysLines 34 = .ok (.bipush 40, 2) := by decide +kernel
theorem dX11_laysLines_36 : decode cX11_laysLines 36 = .ok (.iload_n 1, 1) := by decide +kernel
theorem dX11_laysLines_37 : decode cX11_laysLines 37 = .ok (.imul, 1) := by decide +kernel
theorem dX11_laysLines_38 : decode cX11_laysLines 38 = .ok (.iload_n 3, 1) := by decide +kernel
theorem dX11_laysLines_39 : decode cX11_laysLines 39 = .ok (.iadd, 1) := by decide +kernel
theorem dX11_laysLines_40 : decode cX11_laysLines 40 = .ok (.iaload, 1) := by decide +kernel
theorem dX11_laysLines_41 : decode cX11_laysLines 41 = .ok (.iastore, 1) := by decide +kernel
theorem dX11_laysLines_42 : decode cX11_laysLines 42 = .ok (.aload_n 0, 1) := by decide +kernel
theorem dX11_laysLines_43 : decode cX11_laysLines 43 = .ok (.getfield 110, 3) := by decide +kernel
theorem dX11_laysLines_46 : decode cX11_laysLines 46 = .ok (.bipush 40, 2) := by decide +kernel
theorem dX11_laysLines_48 : decode cX11_laysLines 48 = .ok (.iload_n 2, 1) := by decide +kernel
theorem dX11_laysLines_49 : decode cX11_laysLines 49 = .ok (.imul, 1) := by decide +kernel
theorem dX11_laysLines_50 : decode cX11_laysLines 50 = .ok (.iload_n 3, 1) := by decide +kernel
theorem dX11_laysLines_51 : decode cX11_laysLines 51 = .ok (.iadd, 1) := by decide +kernel
theorem dX11_laysLines_52 : decode cX11_laysLines 52 = .ok (.aload_n 0, 1) := by decide +kernel
theorem dX11_laysLines_53 : decode cX11_laysLines 53 = .ok (.getfield 110, 3) := by decide +kernel
theorem dX11_laysLines_56 : decode cX11_laysLines 56 = .ok (.bipush 40, 2) := by decide +kernel
theorem dX11_laysLines_58 : decode cX11_laysLines 58 = .ok (.iload_n 1, 1) := by decide +kernel
theorem dX11_laysLines_59 : decode cX11_laysLines 59 = .ok (.imul, 1) := by decide +kernel
theorem dX11_laysLines_60 : decode cX11_laysLines 60 = .ok (.iload_n 3, 1) := by decide +kernel
theorem dX11_laysLines_61 : decode cX11_laysLines 61 = .ok (.iadd, 1) := by decide +kernel
theorem dX11_laysLines_62 : decode cX11_laysLines 62 = .ok (.iaload, 1) := by decide +kernel
theorem dX11_laysLines_63 : decode cX11_laysLines 63 = .ok (.iastore, 1) := by decide +kernel
theorem dX11_laysLines_64 : decode cX11_laysLines 64 = .ok (.aload_n 0, 1) := by decide +kernel
theorem dX11_laysLines_65 : decode cX11_laysLines 65 = .ok (.getfield 113, 3) := by decide +kernel
theorem dX11_laysLines_68 : decode cX11_laysLines 68 = .ok (.bipush 40, 2) := by decide +kernel
theorem dX11_laysLines_70 : decode cX11_laysLines 70 = .ok (.iload_n 2, 1) := by decide +kernel
theorem dX11_laysLines_71 : decode cX11_laysLines 71 = .ok (.imul, 1) := by decide +kernel
theorem dX11_laysLines_72 : decode cX11_laysLines 72 = .ok (.iload_n 3, 1) := by decide +kernel
theorem dX11_laysLines_73 : decode cX11_laysLines 73 = .ok (.iadd, 1) := by decide +kernel
theorem dX11_laysLines_74 : decode cX11_laysLines 74 = .ok (.aload_n 0, 1) := by decide +kernel
theorem dX11_laysLines_75 : decode cX11_laysLines 75 = .ok (.getfield 113, 3) := by decide +kernel
theorem dX11_laysLines_78 : decode cX11_laysLines 78 = .ok (.bipush 40, 2) := by decide +kernel
theorem dX11_laysLines_80 : decode cX11_laysLines 80 = .ok (.iload_n 1, 1) := by decide +kernel
theorem dX11_laysLines_81 : decode cX11_laysLines 81 = .ok (.imul, 1) := by decide +kernel
theorem dX11_laysLines_82 : decode cX11_laysLines 82 = .ok (.iload_n 3, 1) := by decide +kernel
theorem dX11_laysLines_83 : decode cX11_laysLines 83 = .ok (.iadd, 1) := by decide +kernel
theorem dX11_laysLines_84 : decode cX11_laysLines 84 = .ok (.iaload, 1) := by decide +kernel
theorem dX11_laysLines_85 : decode cX11_laysLines 85 = .ok (.iastore, 1) := by decide +kernel
theorem dX11_laysLines_86 : decode cX11_laysLines 86 = .ok (.iinc 3 1, 3) := by decide +kernel
theorem dX11_laysLines_89 : decode cX11_laysLines 89 = .ok (.goto (-75), 3) := by decide +kernel
theorem dX11_laysLines_92 : decode cX11_laysLines 92 = .ok (.return_, 1) := by decide +kernel
theorem dX11_laysSeen_0 : decode cX11_laysSeen 0 = .ok (.aload_n 0, 1) := by decide +kernel
theorem dX11_laysSeen_1 : decode cX11_laysSeen 1 = .ok (.getfield 116, 3) := by decide +kernel
theorem dX11_laysSeen_4 : decode cX11_laysSeen 4 = .ok (.iload_n 2, 1) := by decide +kernel
theorem dX11_laysSeen_5 : decode cX11_laysSeen 5 = .ok (.aload_n 0, 1) := by decide +kernel
theorem dX11_laysSeen_6 : decode cX11_laysSeen 6 = .ok (.getfield 116, 3) := by decide +kernel
theorem dX11_laysSeen_9 : decode cX11_laysSeen 9 = .ok (.iload_n 1, 1) := by decide +kernel
theorem dX11_laysSeen_10 : decode cX11_laysSeen 10 = .ok (.iaload, 1) := by decide +kernel
theorem dX11_laysSeen_11 : decode cX11_laysSeen 11 = .ok (.iastore, 1) := by decide +kernel
theorem dX11_laysSeen_12 : decode cX11_laysSeen 12 = .ok (.iconst 0, 1) := by decide +kernel
theorem dX11_laysSeen_13 : decode cX11_laysSeen 13 = .ok (.istore_n 3, 1) := by decide +kernel
theorem dX11_laysSeen_14 : decode cX11_laysSeen 14 = .ok (.iload_n 3, 1) := by decide +kernel
theorem dX11_laysSeen_15 : decode cX11_laysSeen 15 = .ok (.bipush 8, 2) := by decide +kernel
theorem dX11_laysSeen_17 : decode cX11_laysSeen 17 = .ok (.if_icmp .ge 53, 3) := by decide +kernel
theorem dX11_laysSeen_20 : decode cX11_laysSeen 20 = .ok (.aload_n 0, 1) := by decide +kernel
theorem dX11_laysSeen_21 : decode cX11_laysSeen 21 = .ok (.getfield 119, 3) := by decide +kernel
theorem dX11_laysSeen_24 : decode cX11_laysSeen 24 = .ok (.bipush 8, 2) := by decide +kernel
theorem dX11_laysSeen_26 : decode cX11_laysSeen 26 = .ok (.iload_n 2, 1) := by decide +kernel
theorem dX11_laysSeen_27 : decode cX11_laysSeen 27 = .ok (.imul, 1) := by decide +kernel
theorem dX11_laysSeen_28 : decode cX11_laysSeen 28 = .ok (.iload_n 3, 1) := by decide +kernel
theorem dX11_laysSeen_29 : decode cX11_laysSeen 29 = .ok (.iadd, 1) := by decide +kernel
theorem dX11_laysSeen_30 : decode cX11_laysSeen 30 = .ok (.aload_n 0, 1) := by decide +kernel
theorem dX11_laysSeen_31 : decode cX11_laysSeen 31 = .ok (.getfield 119, 3) := by decide +kernel
theorem dX11_laysSeen_34 : decode cX11_laysSeen 34 = .ok (.bipush 8, 2) := by decide +kernel
theorem dX11_laysSeen_36 : decode cX11_laysSeen 36 = .ok (.iload_n 1, 1) := by decide +kernel
theorem dX11_laysSeen_37 : decode cX11_laysSeen 37 = .ok (.imul, 1) := by decide +kernel
theorem dX11_laysSeen_38 : decode cX11_laysSeen 38 = .ok (.iload_n 3, 1) := by decide +kernel
theorem dX11_laysSeen_39 : decode cX11_laysSeen 39 = .ok (.iadd, 1) := by decide +kernel
theorem dX11_laysSeen_40 : decode cX11_laysSeen 40 = .ok (.iaload, 1) := by decide +kernel
theorem dX11_laysSeen_41 : decode cX11_laysSeen 41 = .ok (.iastore, 1) := by decide +kernel
theorem dX11_laysSeen_42 : decode cX11_laysSeen 42 = .ok (.aload_n 0, 1) := by decide +kernel
theorem dX11_laysSeen_43 : decode cX11_laysSeen 43 = .ok (.getfield 122, 3) := by decide +kernel
theorem dX11_laysSeen_46 : decode cX11_laysSeen 46 = .ok (.bipush 8, 2) := by decide +kernel
theorem dX11_laysSeen_48 : decode cX11_laysSeen 48 = .ok (.iload_n 2, 1) := by decide +kernel
theorem dX11_laysSeen_49 : decode cX11_laysSeen 49 = .ok (.imul, 1) := by decide +kernel
theorem dX11_laysSeen_50 : decode cX11_laysSeen 50 = .ok (.iload_n 3, 1) := by decide +kernel
theorem dX11_laysSeen_51 : decode cX11_laysSeen 51 = .ok (.iadd, 1) := by decide +kernel
theorem dX11_laysSeen_52 : decode cX11_laysSeen 52 = .ok (.aload_n 0, 1) := by decide +kernel
theorem dX11_laysSeen_53 : decode cX11_laysSeen 53 = .ok (.getfield 122, 3) := by decide +kernel
theorem dX11_laysSeen_56 : decode cX11_laysSeen 56 = .ok (.bipush 8, 2) := by decide +kernel
theorem dX11_laysSeen_58 : decode cX11_laysSeen 58 = .ok (.iload_n 1, 1) := by decide +kernel
theorem dX11_laysSeen_59 : decode cX11_laysSeen 59 = .ok (.imul, 1) := by decide +kernel
theorem dX11_laysSeen_60 : decode cX11_laysSeen 60 = .ok (.iload_n 3, 1) := by decide +kernel
theorem dX11_laysSeen_61 : decode cX11_laysSeen 61 = .ok (.iadd, 1) := by decide +kernel
theorem dX11_laysSeen_62 : decode cX11_laysSeen 62 = .ok (.baload, 1) := by decide +kernel
theorem dX11_laysSeen_63 : decode cX11_laysSeen 63 = .ok (.bastore, 1) := by decide +kernel
theorem dX11_laysSeen_64 : decode cX11_laysSeen 64 = .ok (.iinc 3 1, 3) := by decide +kernel
theorem dX11_laysSeen_67 : decode cX11_laysSeen 67 = .ok (.goto (-53), 3) := by decide +kernel
theorem dX11_laysSeen_70 : decode cX11_laysSeen 70 = .ok (.return_, 1) := by decide +kernel
theorem dX11_fresh0_0 : decode cX11_fresh0 0 = .ok (.iconst 0, 1) := by decide +kernel
theorem dX11_fresh0_1 : decode cX11_fresh0 1 = .ok (.istore_n 1, 1) := by decide +kernel
theorem dX11_fresh0_2 : decode cX11_fresh0 2 = .ok (.iload_n 1, 1) := by decide +kernel
theorem dX11_fresh0_3 : decode cX11_fresh0 3 = .ok (.sipush 374, 3) := by decide +kernel
theorem dX11_fresh0_6 : decode cX11_fresh0 6 = .ok (.if_icmp .ge 16, 3) := by decide +kernel
theorem dX11_fresh0_9 : decode cX11_fresh0 9 = .ok (.aload_n 0, 1) := by decide +kernel
theorem dX11_fresh0_10 : decode cX11_fresh0 10 = .ok (.getfield 125, 3) := by decide +kernel
theorem dX11_fresh0_13 : decode cX11_fresh0 13 = .ok (.iload_n 1, 1) := by decide +kernel
theorem dX11_fresh0_14 : decode cX11_fresh0 14 = .ok (.iconst 0, 1) := by decide +kernel
theorem dX11_fresh0_15 : decode cX11_fresh0 15 = .ok (.iastore, 1) := by decide +kernel
theorem dX11_fresh0_16 : decode cX11_fresh0 16 = .ok (.iinc 1 1, 3) := by decide +kernel
theorem dX11_fresh0_19 : decode cX11_fresh0 19 = .ok (.goto (-17), 3) := by decide +kernel
theorem dX11_fresh0_22 : decode cX11_fresh0 22 = .ok (.aload_n 0, 1) := by decide +kernel
theorem dX11_fresh0_23 : decode cX11_fresh0 23 = .ok (.getfield 125, 3) := by decide +kernel
theorem dX11_fresh0_26 : decode cX11_fresh0 26 = .ok (.iconst 0, 1) := by decide +kernel
theorem dX11_fresh0_27 : decode cX11_fresh0 27 = .ok (.iconst 1, 1) := by decide +kernel
theorem dX11_fresh0_28 : decode cX11_fresh0 28 = .ok (.aload_n 0, 1) := by decide +kernel
theorem dX11_fresh0_29 : decode cX11_fresh0 29 = .ok (.getfield 13, 3) := by decide +kernel
theorem dX11_fresh0_32 : decode cX11_fresh0 32 = .ok (.iconst 0, 1) := by decide +kernel
theorem dX11_fresh0_33 : decode cX11_fresh0 33 = .ok (.iaload, 1) := by decide +kernel
theorem dX11_fresh0_34 : decode cX11_fresh0 34 = .ok (.ishl, 1) := by decide +kernel
theorem dX11_fresh0_35 : decode cX11_fresh0 35 = .ok (.iconst 1, 1) := by decide +kernel
theorem dX11_fresh0_36 : decode cX11_fresh0 36 = .ok (.isub, 1) := by decide +kernel
theorem dX11_fresh0_37 : decode cX11_fresh0 37 = .ok (.iastore, 1) := by decide +kernel
theorem dX11_fresh0_38 : decode cX11_fresh0 38 = .ok (.return_, 1) := by decide +kernel
theorem dX11_array_0 : decode cX11_array 0 = .ok (.aload_n 0, 1) := by decide +kernel
theorem dX11_array_1 : decode cX11_array 1 = .ok (.iconst 0, 1) := by decide +kernel
theorem dX11_array_2 : decode cX11_array 2 = .ok (.putfield 152, 3) := by decide +kernel
theorem dX11_array_5 : decode cX11_array 5 = .ok (.aload_n 0, 1) := by decide +kernel
theorem dX11_array_6 : decode cX11_array 6 = .ok (.invokevirtual 339, 3) := by decide +kernel
theorem dX11_array_9 : decode cX11_array 9 = .ok (.ifCond .ne 8, 3) := by decide +kernel
theorem dX11_array_12 : decode cX11_array 12 = .ok (.aload_n 0, 1) := by decide +kernel
theorem dX11_array_13 : decode cX11_array 13 = .ok (.getfield 188, 3) := by decide +kernel
theorem dX11_array_16 : decode cX11_array 16 = .ok (.ireturn, 1) := by decide +kernel
theorem dX11_array_17 : decode cX11_array 17 = .ok (.aload_n 0, 1) := by decide +kernel
theorem dX11_array_18 : decode cX11_array 18 = .ok (.invokevirtual 342, 3) := by decide +kernel
theorem dX11_array_21 : decode cX11_array 21 = .ok (.aload_n 0, 1) := by decide +kernel
theorem dX11_array_22 : decode cX11_array 22 = .ok (.iconst 0, 1) := by decide +kernel
theorem dX11_array_23 : decode cX11_array 23 = .ok (.aload_n 0, 1) := by decide +kernel
theorem dX11_array_24 : decode cX11_array 24 = .ok (.getfield 13, 3) := by decide +kernel
theorem dX11_array_27 : decode cX11_array 27 = .ok (.iconst 0, 1) := by decide +kernel
theorem dX11_array_28 : decode cX11_array 28 = .ok (.iaload, 1) := by decide +kernel
theorem dX11_array_29 : decode cX11_array 29 = .ok (.invokevirtual 345, 3) := by decide +kernel
theorem dX11_array_32 : decode cX11_array 32 = .ok (.aload_n 0, 1) := by decide +kernel
theorem dX11_array_33 : decode cX11_array 33 = .ok (.invokevirtual 149, 3) := by decide +kernel
theorem dX11_array_36 : decode cX11_array 36 = .ok (.aload_n 0, 1) := by decide +kernel
theorem dX11_array_37 : decode cX11_array 37 = .ok (.getfield 104, 3) := by decide +kernel
theorem dX11_array_40 : decode cX11_array 40 = .ok (.iconst 0, 1) := by decide +kernel
theorem dX11_array_41 : decode cX11_array 41 = .ok (.iconst 0, 1) := by decide +kernel
theorem dX11_array_42 : decode cX11_array 42 = .ok (.iastore, 1) := by decide +kernel
theorem dX11_array_43 : decode cX11_array 43 = .ok (.aload_n 0, 1) := by decide +kernel
theorem dX11_array_44 : decode cX11_array 44 = .ok (.getfield 116, 3) := by decide +kernel
theorem dX11_array_47 : decode cX11_array 47 = .ok (.iconst 0, 1) := by decide +kernel
theorem dX11_array_48 : decode cX11_array 48 = .ok (.iconst 0, 1) := by decide +kernel
theorem dX11_array_49 : decode cX11_array 49 = .ok (.iastore, 1) := by decide +kernel
theorem dX11_array_50 : decode cX11_array 50 = .ok (.iconst 0, 1) := by decide +kernel
theorem dX11_array_51 : decode cX11_array 51 = .ok (.istore_n 1, 1) := by decide +kernel
theorem dX11_array_52 : decode cX11_array 52 = .ok (.iload_n 1, 1) := by decide +kernel
theorem dX11_array_53 : decode cX11_array 53 = .ok (.iconst 2, 1) := by decide +kernel
theorem dX11_array_54 : decode cX11_array 54 = .ok (.if_icmp .ge 16, 3) := by decide +kernel
theorem dX11_array_57 : decode cX11_array 57 = .ok (.aload_n 0, 1) := by decide +kernel
theorem dX11_array_58 : decode cX11_array 58 = .ok (.getfield 137, 3) := by decide +kernel
theorem dX11_array_61 : decode cX11_array 61 = .ok (.iload_n 1, 1) := by decide +kernel
theorem dX11_array_62 : decode cX11_array 62 = .ok (.iconst 0, 1) := by decide +kernel
theorem dX11_array_63 : decode cX11_array 63 = .ok (.bastore, 1) := by decide +kernel
theorem dX11_array_64 : decode cX11_array 64 = .ok (.iinc 1 1, 3) := by decide +kernel
theorem dX11_array_67 : decode cX11_array 67 = .ok (.goto (-15), 3) := by decide +kernel
theorem dX11_array_70 : decode cX11_array 70 = .ok (.iconst 0, 1) := by decide +kernel
theorem dX11_array_71 : decode cX11_array 71 = .ok (.ireturn, 1) := by decide +kernel
theorem dX11_work_0 : decode cX11_work 0 = .ok (.aload_n 0, 1) := by decide +kernel
theorem dX11_work_1 : decode cX11_work 1 = .ok (.iconst 0, 1) := by decide +kernel
theorem dX11_work_2 : decode cX11_work 2 = .ok (.putfield 152, 3) := by decide +kernel
theorem dX11_work_5 : decode cX11_work 5 = .ok (.aload_n 0, 1) := by decide +kernel
theorem dX11_work_6 : decode cX11_work 6 = .ok (.getfield 104, 3) := by decide +kernel
theorem dX11_work_9 : decode cX11_work 9 = .ok (.iconst 3, 1) := by decide +kernel
theorem dX11_work_10 : decode cX11_work 10 = .ok (.iconst 0, 1) := by decide +kernel
theorem dX11_work_11 : decode cX11_work 11 = .ok (.iastore, 1) := by decide +kernel
theorem dX11_work_12 : decode cX11_work 12 = .ok (.aload_n 0, 1) := by decide +kernel
theorem dX11_work_13 : decode cX11_work 13 = .ok (.invokevirtual 279, 3) := by decide +kernel
theorem dX11_work_16 : decode cX11_work 16 = .ok (.aload_n 0, 1) := by decide +kernel
theorem dX11_work_17 : decode cX11_work 17 = .ok (.getfield 177, 3) := by decide +kernel
theorem dX11_work_20 : decode cX11_work 20 = .ok (.ifCond .eq 15, 3) := by decide +kernel
theorem dX11_work_23 : decode cX11_work 23 = .ok (.aload_n 0, 1) := by decide +kernel
theorem dX11_work_24 : decode cX11_work 24 = .ok (.invokevirtual 349, 3) := by decide +kernel
theorem dX11_work_27 : decode cX11_work 27 = .ok (.ifCond .ne (-11), 3) := by decide +kernel
theorem dX11_work_30 : decode cX11_work 30 = .ok (.aload_n 0, 1) := by decide +kernel
theorem dX11_work_31 : decode cX11_work 31 = .ok (.getfield 188, 3) := by decide +kernel
theorem dX11_work_34 : decode cX11_work 34 = .ok (.ireturn, 1) := by decide +kernel
theorem dX11_work_35 : decode cX11_work 35 = .ok (.aload_n 0, 1) := by decide +kernel
theorem dX11_work_36 : decode cX11_work 36 = .ok (.iconst 3, 1) := by decide +kernel
theorem dX11_work_37 : decode cX11_work 37 = .ok (.iconst 0, 1) := by decide +kernel
theorem dX11_work_38 : decode cX11_work 38 = .ok (.invokevirtual 352, 3) := by decide +kernel
theorem dX11_work_41 : decode cX11_work 41 = .ok (.iconst 0, 1) := by decide +kernel
theorem dX11_work_42 : decode cX11_work 42 = .ok (.ireturn, 1) := by decide +kernel
theorem dX11_isDisk_0 : decode cX11_isDisk 0 = .ok (.iload_n 1, 1) := by decide +kernel
theorem dX11_isDisk_1 : decode cX11_isDisk 1 = .ok (.ifCond .lt 17, 3) := by decide +kernel
theorem dX11_isDisk_4 : decode cX11_isDisk 4 = .ok (.iload_n 1, 1) := by decide +kernel
theorem dX11_isDisk_5 : decode cX11_isDisk 5 = .ok (.aload_n 0, 1) := by decide +kernel
theorem dX11_isDisk_6 : decode cX11_isDisk 6 = .ok (.getfield 13, 3) := by decide +kernel
theorem dX11_isDisk_9 : decode cX11_isDisk 9 = .ok (.iconst 0, 1) := by decide +kernel
theorem dX11_isDisk_10 : decode cX11_isDisk 10 = .ok (.iaload, 1) := by decide +kernel
theorem dX11_isDisk_11 : decode cX11_isDisk 11 = .ok (.if_icmp .ge 7, 3) := by decide +kernel
theorem dX11_isDisk_14 : decode cX11_isDisk 14 = .ok (.iconst 1, 1) := by decide +kernel
theorem dX11_isDisk_15 : decode cX11_isDisk 15 = .ok (.goto 4, 3) := by decide +kernel
theorem dX11_isDisk_18 : decode cX11_isDisk 18 = .ok (.iconst 0, 1) := by decide +kernel
theorem dX11_isDisk_19 : decode cX11_isDisk 19 = .ok (.ireturn, 1) := by decide +kernel
theorem dX11_isDatum_0 : decode cX11_isDatum 0 = .ok (.iload_n 1, 1) := by decide +kernel
theorem dX11_isDatum_1 : decode cX11_isDatum 1 = .ok (.ifCond .lt 17, 3) := by decide +kernel
theorem dX11_isDatum_4 : decode cX11_isDatum 4 = .ok (.iload_n 1, 1) := by decide +kernel
theorem dX11_isDatum_5 : decode cX11_isDatum 5 = .ok (.aload_n 0, 1) := by decide +kernel
theorem dX11_isDatum_6 : decode cX11_isDatum 6 = .ok (.getfield 98, 3) := by decide +kernel
theorem dX11_isDatum_9 : decode cX11_isDatum 9 = .ok (.iconst 0, 1) := by decide +kernel
theorem dX11_isDatum_10 : decode cX11_isDatum 10 = .ok (.iaload, 1) := by decide +kernel
theorem dX11_isDatum_11 : decode cX11_isDatum 11 = .ok (.if_icmp .ge 7, 3) := by decide +kernel
theorem dX11_isDatum_14 : decode cX11_isDatum 14 = .ok (.iconst 1, 1) := by decide +kernel
theorem dX11_isDatum_15 : decode cX11_isDatum 15 = .ok (.goto 4, 3) := by decide +kernel
theorem dX11_isDatum_18 : decode cX11_isDatum 18 = .ok (.iconst 0, 1) := by decide +kernel
theorem dX11_isDatum_19 : decode cX11_isDatum 19 = .ok (.ireturn, 1) := by decide +kernel
theorem dX11_isUp_0 : decode cX11_isUp 0 = .ok (.aload_n 0, 1) := by decide +kernel
theorem dX11_isUp_1 : decode cX11_isUp 1 = .ok (.getfield 125, 3) := by decide +kernel
theorem dX11_isUp_4 : decode cX11_isUp 4 = .ok (.iconst 0, 1) := by decide +kernel
theorem dX11_isUp_5 : decode cX11_isUp 5 = .ok (.iaload, 1) := by decide +kernel
theorem dX11_isUp_6 : decode cX11_isUp 6 = .ok (.iload_n 1, 1) := by decide +kernel
theorem dX11_isUp_7 : decode cX11_isUp 7 = .ok (.invokestatic 273, 3) := by decide +kernel
theorem dX11_isUp_10 : decode cX11_isUp 10 = .ok (.ireturn, 1) := by decide +kernel
theorem dX11_lostIn_0 : decode cX11_lostIn 0 = .ok (.iconst 0, 1) := by decide +kernel
theorem dX11_lostIn_1 : decode cX11_lostIn 1 = .ok (.istore_n 2, 1) := by decide +kernel
theorem dX11_lostIn_2 : decode cX11_lostIn 2 = .ok (.iconst 0, 1) := by decide +kernel
theorem dX11_lostIn_3 : decode cX11_lostIn 3 = .ok (.istore_n 3, 1) := by decide +kernel
theorem dX11_lostIn_4 : decode cX11_lostIn 4 = .ok (.iload_n 3, 1) := by decide +kernel
theorem dX11_lostIn_5 : decode cX11_lostIn 5 = .ok (.aload_n 0, 1) := by decide +kernel
theorem dX11_lostIn_6 : decode cX11_lostIn 6 = .ok (.getfield 74, 3) := by decide +kernel
theorem dX11_lostIn_9 : decode cX11_lostIn 9 = .ok (.iload_n 1, 1) := by decide +kernel
theorem dX11_lostIn_10 : decode cX11_lostIn 10 = .ok (.iaload, 1) := by decide +kernel
theorem dX11_lostIn_11 : decode cX11_lostIn 11 = .ok (.if_icmp .ge 34, 3) := by decide +kernel
theorem dX11_lostIn_14 : decode cX11_lostIn 14 = .ok (.iload_n 2, 1) := by decide +kernel
theorem dX11_lostIn_15 : decode cX11_lostIn 15 = .ok (.aload_n 0, 1) := by decide +kernel
theorem dX11_lostIn_16 : decode cX11_lostIn 16 = .ok (.getfield 125, 3) := by decide +kernel
theorem dX11_lostIn_19 : decode cX11_lostIn 19 = .ok (.bipush 14, 2) := by decide +kernel
theorem dX11_lostIn_21 : decode cX11_lostIn 21 = .ok (.iconst 5, 1) := by decide +kernel
theorem dX11_lostIn_22 : decode cX11_lostIn 22 = .ok (.iload_n 1, 1) := by decide +kernel
theorem dX11_lostIn_23 : decode cX11_lostIn 23 = .ok (.imul, 1) := by decide +kernel
theorem dX11_lostIn_24 : decode cX11_lostIn 24 = .ok (.iadd, 1) := by decide +kernel
theorem dX11_lostIn_25 : decode cX11_lostIn 25 = .ok (.iload_n 3, 1) := by decide +kernel
theorem dX11_lostIn_26 : decode cX11_lostIn 26 = .ok (.iadd, 1) := by decide +kernel
theorem dX11_lostIn_27 : decode cX11_lostIn 27 = .ok (.iaload, 1) := by decide +kernel
theorem dX11_lostIn_28 : decode cX11_lostIn 28 = .ok (.iconst 2, 1) := by decide +kernel
theorem dX11_lostIn_29 : decode cX11_lostIn 29 = .ok (.if_icmp .ne 7, 3) := by decide +kernel
theorem dX11_lostIn_32 : decode cX11_lostIn 32 = .ok (.iconst 1, 1) := by decide +kernel
theorem dX11_lostIn_33 : decode cX11_lostIn 33 = .ok (.goto 4, 3) := by decide +kernel
theorem dX11_lostIn_36 : decode cX11_lostIn 36 = .ok (.iconst 0, 1) := by decide +kernel
theorem dX11_lostIn_37 : decode cX11_lostIn 37 = .ok (.iadd, 1) := by decide +kernel
theorem dX11_lostIn_38 : decode cX11_lostIn 38 = .ok (.istore_n 2, 1) := by decide +kernel
theorem dX11_lostIn_39 : decode cX11_lostIn 39 = .ok (.iinc 3 1, 3) := by decide +kernel
theorem dX11_lostIn_42 : decode cX11_lostIn 42 = .ok (.goto (-38), 3) := by decide +kernel
theorem dX11_lostIn_45 : decode cX11_lostIn 45 = .ok (.iload_n 2, 1) := by decide +kernel
theorem dX11_lostIn_46 : decode cX11_lostIn 46 = .ok (.ireturn, 1) := by decide +kernel
theorem dX11_isDead_0 : decode cX11_isDead 0 = .ok (.aload_n 0, 1) := by decide +kernel
theorem dX11_isDead_1 : decode cX11_isDead 1 = .ok (.iload_n 1, 1) := by decide +kernel
theorem dX11_isDead_2 : decode cX11_isDead 2 = .ok (.invokevirtual 355, 3) := by decide +kernel
theorem dX11_isDead_5 : decode cX11_isDead 5 = .ok (.iconst 1, 1) := by decide +kernel
theorem dX11_isDead_6 : decode cX11_isDead 6 = .ok (.if_icmp .le 7, 3) := by decide +kernel
theorem dX11_isDead_9 : decode cX11_isDead 9 = .ok (.iconst 1, 1) := by decide +kernel
theorem dX11_isDead_10 : decode cX11_isDead 10 = .ok (.goto 4, 3) := by decide +kernel
theorem dX11_isDead_13 : decode cX11_isDead 13 = .ok (.iconst 0, 1) := by decide +kernel
theorem dX11_isDead_14 : decode cX11_isDead 14 = .ok (.ireturn, 1) := by decide +kernel
theorem dX11_awayIn_0 : decode cX11_awayIn 0 = .ok (.iconst 0, 1) := by decide +kernel
theorem dX11_awayIn_1 : decode cX11_awayIn 1 = .ok (.istore_n 2, 1) := by decide +kernel
theorem dX11_awayIn_2 : decode cX11_awayIn 2 = .ok (.iload_n 2, 1) := by decide +kernel
theorem dX11_awayIn_3 : decode cX11_awayIn 3 = .ok (.aload_n 0, 1) := by decide +kernel
theorem dX11_awayIn_4 : decode cX11_awayIn 4 = .ok (.getfield 74, 3) := by decide +kernel
theorem dX11_awayIn_7 : decode cX11_awayIn 7 = .ok (.iload_n 1, 1) := by decide +kernel
theorem dX11_awayIn_8 : decode cX11_awayIn 8 = .ok (.iaload, 1) := by decide +kernel
theorem dX11_awayIn_9 : decode cX11_awayIn 9 = .ok (.if_icmp .ge 28, 3) := by decide +kernel
theorem dX11_awayIn_12 : decode cX11_awayIn 12 = .ok (.aload_n 0, 1) := by decide +kernel
theorem dX11_awayIn_13 : decode cX11_awayIn 13 = .ok (.getfield 125, 3) := by decide +kernel
theorem dX11_awayIn_16 : decode cX11_awayIn 16 = .ok (.bipush 14, 2) := by decide +kernel
theorem dX11_awayIn_18 : decode cX11_awayIn 18 = .ok (.iconst 5, 1) := by decide +kernel
theorem dX11_awayIn_19 : decode cX11_awayIn 19 = .ok (.iload_n 1, 1) := by decide +kernel
theorem dX11_awayIn_20 : decode cX11_awayIn 20 = .ok (.imul, 1) := by decide +kernel
theorem dX11_awayIn_21 : decode cX11_awayIn 21 = .ok (.iadd, 1) := by decide +kernel
theorem dX11_awayIn_22 : decode cX11_awayIn 22 = .ok (.iload_n 2, 1) := by decide +kernel
theorem dX11_awayIn_23 : decode cX11_awayIn 23 = .ok (.iadd, 1) := by decide +kernel
theorem dX11_awayIn_24 : decode cX11_awayIn 24 = .ok (.iaload, 1) := by decide +kernel
theorem dX11_awayIn_25 : decode cX11_awayIn 25 = .ok (.iconst 1, 1) := by decide +kernel
theorem dX11_awayIn_26 : decode cX11_awayIn 26 = .ok (.if_icmp .ne 5, 3) := by decide +kernel
theorem dX11_awayIn_29 : decode cX11_awayIn 29 = .ok (.iload_n 2, 1) := by decide +kernel
theorem dX11_awayIn_30 : decode cX11_awayIn 30 = .ok (.ireturn, 1) := by decide +kernel
theorem dX11_awayIn_31 : decode cX11_awayIn 31 = .ok (.iinc 2 1, 3) := by decide +kernel
theorem dX11_awayIn_34 : decode cX11_awayIn 34 = .ok (.goto (-32), 3) := by decide +kernel
theorem dX11_awayIn_37 : decode cX11_awayIn 37 = .ok (.iconst (-1), 1) := by decide +kernel
theorem dX11_awayIn_38 : decode cX11_awayIn 38 = .ok (.ireturn, 1) := by decide +kernel
theorem dX11_diskNow_0 : decode cX11_diskNow 0 = .ok (.aload_n 0, 1) := by decide +kernel
theorem dX11_diskNow_1 : decode cX11_diskNow 1 = .ok (.getfield 125, 3) := by decide +kernel
theorem dX11_diskNow_4 : decode cX11_diskNow 4 = .ok (.bipush 14, 2) := by decide +kernel
theorem dX11_diskNow_6 : decode cX11_diskNow 6 = .ok (.iload_n 1, 1) := by decide +kernel
theorem dX11_diskNow_7 : decode cX11_diskNow 7 = .ok (.iadd, 1) := by decide +kernel
theorem dX11_diskNow_8 : decode cX11_diskNow 8 = .ok (.iaload, 1) := by decide +kernel
theorem dX11_diskNow_9 : decode cX11_diskNow 9 = .ok (.istore_n 2, 1) := by decide +kernel
theorem dX11_diskNow_10 : decode cX11_diskNow 10 = .ok (.iload_n 2, 1) := by decide +kernel
theorem dX11_diskNow_11 : decode cX11_diskNow 11 = .ok (.iconst 2, 1) := by decide +kernel
theorem dX11_diskNow_12 : decode cX11_diskNow 12 = .ok (.if_icmp .ne 7, 3) := by decide +kernel
theorem dX11_diskNow_15 : decode cX11_diskNow 15 = .ok (.iconst (-1), 1) := by decide +kernel
theorem dX11_diskNow_16 : decode cX11_diskNow 16 = .ok (.goto 25, 3) := by decide +kernel
theorem dX11_diskNow_19 : decode cX11_diskNow 19 = .ok (.iload_n 2, 1) := by decide +kernel
theorem dX11_diskNow_20 : decode cX11_diskNow 20 = .ok (.iconst 1, 1) := by decide +kernel
theorem dX11_diskNow_21 : decode cX11_diskNow 21 = .ok (.if_icmp .ne 14, 3) := by decide +kernel
theorem dX11_diskNow_24 : decode cX11_diskNow 24 = .ok (.aload_n 0, 1) := by decide +kernel
theorem dX11_diskNow_25 : decode cX11_diskNow 25 = .ok (.getfield 83, 3) := by decide +kernel
theorem dX11_diskNow_28 : decode cX11_diskNow 28 = .ok (.iload_n 1, 1) := by decide +kernel
