theorem d_Model_scan_0 : decode b_Model_scan 0 = .ok (.aload_n 0, 1) := by decide +kernel
theorem d_Model_scan_1 : decode b_Model_scan 1 = .ok (.getfield 409, 3) := by decide +kernel
theorem d_Model_scan_4 : decode b_Model_scan 4 = .ok (.istore_n 2, 1) := by decide +kernel
theorem d_Model_scan_5 : decode b_Model_scan 5 = .ok (.iconst 0, 1) := by decide +kernel
theorem d_Model_scan_6 : decode b_Model_scan 6 = .ok (.istore_n 3, 1) := by decide +kernel
theorem d_Model_scan_7 : decode b_Model_scan 7 = .ok (.iconst 0, 1) := by decide +kernel
theorem d_Model_scan_8 : decode b_Model_scan 8 = .ok (.istore 4, 2) := by decide +kernel
theorem d_Model_scan_10 : decode b_Model_scan 10 = .ok (.aload_n 0, 1) := by decide +kernel
theorem d_Model_scan_11 : decode b_Model_scan 11 = .ok (.iconst 0, 1) := by decide +kernel
theorem d_Model_scan_12 : decode b_Model_scan 12 = .ok (.putfield 416, 3) := by decide +kernel
theorem d_Model_scan_15 : decode b_Model_scan 15 = .ok (.aload_n 0, 1) := by decide +kernel
theorem d_Model_scan_16 : decode b_Model_scan 16 = .ok (.iconst (-1), 1) := by decide +kernel
theorem d_Model_scan_17 : decode b_Model_scan 17 = .ok (.putfield 264, 3) := by decide +kernel
theorem d_Model_scan_20 : decode b_Model_scan 20 = .ok (.aload_n 0, 1) := by decide +kernel
theorem d_Model_scan_21 : decode b_Model_scan 21 = .ok (.iconst 0, 1) := by decide +kernel
theorem d_Model_scan_22 : decode b_Model_scan 22 = .ok (.putfield 425, 3) := by decide +kernel
theorem d_Model_scan_25 : decode b_Model_scan 25 = .ok (.aload_n 0, 1) := by decide +kernel
theorem d_Model_scan_26 : decode b_Model_scan 26 = .ok (.iconst 0, 1) := by decide +kernel
theorem d_Model_scan_27 : decode b_Model_scan 27 = .ok (.putfield 428, 3) := by decide +kernel
theorem d_Model_scan_30 : decode b_Model_scan 30 = .ok (.aload_n 0, 1) := by decide +kernel
theorem d_Model_scan_31 : decode b_Model_scan 31 = .ok (.iconst 0, 1) := by decide +kernel
theorem d_Model_scan_32 : decode b_Model_scan 32 = .ok (.putfield 431, 3) := by decide +kernel
theorem d_Model_scan_35 : decode b_Model_scan 35 = .ok (.iload 4, 2) := by decide +kernel
theorem d_Model_scan_37 : decode b_Model_scan 37 = .ok (.iload_n 2, 1) := by decide +kernel
theorem d_Model_scan_38 : decode b_Model_scan 38 = .ok (.if_icmp .ge 609, 3) := by decide +kernel
theorem d_Model_scan_41 : decode b_Model_scan 41 = .ok (.aload_n 0, 1) := by decide +kernel
theorem d_Model_scan_42 : decode b_Model_scan 42 = .ok (.getfield 416, 3) := by decide +kernel
theorem d_Model_scan_45 : decode b_Model_scan 45 = .ok (.ifCond .ne 602, 3) := by decide +kernel
theorem d_Model_scan_48 : decode b_Model_scan 48 = .ok (.aload_n 0, 1) := by decide +kernel
theorem d_Model_scan_49 : decode b_Model_scan 49 = .ok (.getfield 261, 3) := by decide +kernel
theorem d_Model_scan_52 : decode b_Model_scan 52 = .ok (.iload 4, 2) := by decide +kernel
theorem d_Model_scan_54 : decode b_Model_scan 54 = .ok (.baload, 1) := by decide +kernel
theorem d_Model_scan_55 : decode b_Model_scan 55 = .ok (.istore 5, 2) := by decide +kernel
theorem d_Model_scan_57 : decode b_Model_scan 57 = .ok (.iload 5, 2) := by decide +kernel
theorem d_Model_scan_59 : decode b_Model_scan 59 = .ok (.invokestatic 434, 3) := by decide +kernel
theorem d_Model_scan_62 : decode b_Model_scan 62 = .ok (.ifCond .ne 13, 3) := by decide +kernel
theorem d_Model_scan_65 : decode b_Model_scan 65 = .ok (.aload_n 0, 1) := by decide +kernel
theorem d_Model_scan_66 : decode b_Model_scan 66 = .ok (.iconst 1, 1) := by decide +kernel
theorem d_Model_scan_67 : decode b_Model_scan 67 = .ok (.iload 4, 2) := by decide +kernel
theorem d_Model_scan_69 : decode b_Model_scan 69 = .ok (.invokevirtual 437, 3) := by decide +kernel
theorem d_Model_scan_72 : decode b_Model_scan 72 = .ok (.goto 575, 3) := by decide +kernel
theorem d_Model_scan_75 : decode b_Model_scan 75 = .ok (.iload 5, 2) := by decide +kernel
theorem d_Model_scan_77 : decode b_Model_scan 77 = .ok (.bipush 10, 2) := by decide +kernel
theorem d_Model_scan_79 : decode b_Model_scan 79 = .ok (.if_icmp .eq 10, 3) := by decide +kernel
theorem d_Model_scan_82 : decode b_Model_scan 82 = .ok (.iload 5, 2) := by decide +kernel
theorem d_Model_scan_84 : decode b_Model_scan 84 = .ok (.bipush 32, 2) := by decide +kernel
theorem d_Model_scan_86 : decode b_Model_scan 86 = .ok (.if_icmp .ne 9, 3) := by decide +kernel
theorem d_Model_scan_89 : decode b_Model_scan 89 = .ok (.iinc 4 1, 3) := by decide +kernel
theorem d_Model_scan_92 : decode b_Model_scan 92 = .ok (.goto (-57), 3) := by decide +kernel
theorem d_Model_scan_95 : decode b_Model_scan 95 = .ok (.iload 5, 2) := by decide +kernel
theorem d_Model_scan_97 : decode b_Model_scan 97 = .ok (.bipush 59, 2) := by decide +kernel
theorem d_Model_scan_99 : decode b_Model_scan 99 = .ok (.if_icmp .ne 54, 3) := by decide +kernel
theorem d_Model_scan_102 : decode b_Model_scan 102 = .ok (.iload 4, 2) := by decide +kernel
theorem d_Model_scan_104 : decode b_Model_scan 104 = .ok (.iload_n 2, 1) := by decide +kernel
theorem d_Model_scan_105 : decode b_Model_scan 105 = .ok (.if_icmp .ge (-70), 3) := by decide +kernel
theorem d_Model_scan_108 : decode b_Model_scan 108 = .ok (.aload_n 0, 1) := by decide +kernel
theorem d_Model_scan_109 : decode b_Model_scan 109 = .ok (.getfield 261, 3) := by decide +kernel
theorem d_Model_scan_112 : decode b_Model_scan 112 = .ok (.iload 4, 2) := by decide +kernel
theorem d_Model_scan_114 : decode b_Model_scan 114 = .ok (.baload, 1) := by decide +kernel
theorem d_Model_scan_115 : decode b_Model_scan 115 = .ok (.bipush 10, 2) := by decide +kernel
theorem d_Model_scan_117 : decode b_Model_scan 117 = .ok (.if_icmp .eq (-82), 3) := by decide +kernel
theorem d_Model_scan_120 : decode b_Model_scan 120 = .ok (.aload_n 0, 1) := by decide +kernel
theorem d_Model_scan_121 : decode b_Model_scan 121 = .ok (.getfield 416, 3) := by decide +kernel
theorem d_Model_scan_124 : decode b_Model_scan 124 = .ok (.ifCond .ne (-89), 3) := by decide +kernel
theorem d_Model_scan_127 : decode b_Model_scan 127 = .ok (.aload_n 0, 1) := by decide +kernel
theorem d_Model_scan_128 : decode b_Model_scan 128 = .ok (.getfield 261, 3) := by decide +kernel
theorem d_Model_scan_131 : decode b_Model_scan 131 = .ok (.iload 4, 2) := by decide +kernel
theorem d_Model_scan_133 : decode b_Model_scan 133 = .ok (.baload, 1) := by decide +kernel
theorem d_Model_scan_134 : decode b_Model_scan 134 = .ok (.invokestatic 434, 3) := by decide +kernel
theorem d_Model_scan_137 : decode b_Model_scan 137 = .ok (.ifCond .ne 10, 3) := by decide +kernel
theorem d_Model_scan_140 : decode b_Model_scan 140 = .ok (.aload_n 0, 1) := by decide +kernel
theorem d_Model_scan_141 : decode b_Model_scan 141 = .ok (.iconst 1, 1) := by decide +kernel
theorem d_Model_scan_142 : decode b_Model_scan 142 = .ok (.iload 4, 2) := by decide +kernel
theorem d_Model_scan_144 : decode b_Model_scan 144 = .ok (.invokevirtual 437, 3) := by decide +kernel
theorem d_Model_scan_147 : decode b_Model_scan 147 = .ok (.iinc 4 1, 3) := by decide +kernel
theorem d_Model_scan_150 : decode b_Model_scan 150 = .ok (.goto (-48), 3) := by decide +kernel
theorem d_Model_scan_153 : decode b_Model_scan 153 = .ok (.iload 4, 2) := by decide +kernel
theorem d_Model_scan_155 : decode b_Model_scan 155 = .ok (.iconst 1, 1) := by decide +kernel
theorem d_Model_scan_156 : decode b_Model_scan 156 = .ok (.iadd, 1) := by decide +kernel
theorem d_Model_scan_157 : decode b_Model_scan 157 = .ok (.istore 6, 2) := by decide +kernel
theorem d_Model_scan_159 : decode b_Model_scan 159 = .ok (.iload 5, 2) := by decide +kernel
theorem d_Model_scan_161 : decode b_Model_scan 161 = .ok (.bipush 91, 2) := by decide +kernel
theorem d_Model_scan_163 : decode b_Model_scan 163 = .ok (.if_icmp .eq 35, 3) := by decide +kernel
theorem d_Model_scan_166 : decode b_Model_scan 166 = .ok (.iload 5, 2) := by decide +kernel
theorem d_Model_scan_168 : decode b_Model_scan 168 = .ok (.bipush 93, 2) := by decide +kernel
theorem d_Model_scan_170 : decode b_Model_scan 170 = .ok (.if_icmp .eq 28, 3) := by decide +kernel
theorem d_Model_scan_173 : decode b_Model_scan 173 = .ok (.iload 5, 2) := by decide +kernel
theorem d_Model_scan_175 : decode b_Model_scan 175 = .ok (.invokestatic 441, 3) := by decide +kernel
theorem d_Model_scan_178 : decode b_Model_scan 178 = .ok (.ifCond .eq 24, 3) := by decide +kernel
theorem d_Model_scan_181 : decode b_Model_scan 181 = .ok (.iload 5, 2) := by decide +kernel
theorem d_Model_scan_183 : decode b_Model_scan 183 = .ok (.bipush 45, 2) := by decide +kernel
theorem d_Model_scan_185 : decode b_Model_scan 185 = .ok (.if_icmp .ne 13, 3) := by decide +kernel
theorem d_Model_scan_188 : decode b_Model_scan 188 = .ok (.aload_n 0, 1) := by decide +kernel
theorem d_Model_scan_189 : decode b_Model_scan 189 = .ok (.iload 4, 2) := by decide +kernel
theorem d_Model_scan_191 : decode b_Model_scan 191 = .ok (.iload_n 2, 1) := by decide +kernel
theorem d_Model_scan_192 : decode b_Model_scan 192 = .ok (.invokevirtual 444, 3) := by decide +kernel
theorem d_Model_scan_195 : decode b_Model_scan 195 = .ok (.ifCond .eq 7, 3) := by decide +kernel
theorem d_Model_scan_198 : decode b_Model_scan 198 = .ok (.iconst 1, 1) := by decide +kernel
theorem d_Model_scan_199 : decode b_Model_scan 199 = .ok (.goto 4, 3) := by decide +kernel
theorem d_Model_scan_202 : decode b_Model_scan 202 = .ok (.iconst 0, 1) := by decide +kernel
theorem d_Model_scan_203 : decode b_Model_scan 203 = .ok (.istore 7, 2) := by decide +kernel
theorem d_Model_scan_205 : decode b_Model_scan 205 = .ok (.iload 7, 2) := by decide +kernel
theorem d_Model_scan_207 : decode b_Model_scan 207 = .ok (.ifCond .ne 78, 3) := by decide +kernel
theorem d_Model_scan_210 : decode b_Model_scan 210 = .ok (.iload 6, 2) := by decide +kernel
theorem d_Model_scan_212 : decode b_Model_scan 212 = .ok (.iload_n 2, 1) := by decide +kernel
theorem d_Model_scan_213 : decode b_Model_scan 213 = .ok (.if_icmp .ge 72, 3) := by decide +kernel
theorem d_Model_scan_216 : decode b_Model_scan 216 = .ok (.aload_n 0, 1) := by decide +kernel
theorem d_Model_scan_217 : decode b_Model_scan 217 = .ok (.getfield 261, 3) := by decide +kernel
theorem d_Model_scan_220 : decode b_Model_scan 220 = .ok (.iload 6, 2) := by decide +kernel
theorem d_Model_scan_222 : decode b_Model_scan 222 = .ok (.baload, 1) := by decide +kernel
theorem d_Model_scan_223 : decode b_Model_scan 223 = .ok (.invokestatic 434, 3) := by decide +kernel
theorem d_Model_scan_226 : decode b_Model_scan 226 = .ok (.ifCond .eq 59, 3) := by decide +kernel
theorem d_Model_scan_229 : decode b_Model_scan 229 = .ok (.aload_n 0, 1) := by decide +kernel
theorem d_Model_scan_230 : decode b_Model_scan 230 = .ok (.getfield 261, 3) := by decide +kernel
theorem d_Model_scan_233 : decode b_Model_scan 233 = .ok (.iload 6, 2) := by decide +kernel
theorem d_Model_scan_235 : decode b_Model_scan 235 = .ok (.baload, 1) := by decide +kernel
theorem d_Model_scan_236 : decode b_Model_scan 236 = .ok (.invokestatic 422, 3) := by decide +kernel
theorem d_Model_scan_239 : decode b_Model_scan 239 = .ok (.ifCond .ne 46, 3) := by decide +kernel
theorem d_Model_scan_242 : decode b_Model_scan 242 = .ok (.aload_n 0, 1) := by decide +kernel
theorem d_Model_scan_243 : decode b_Model_scan 243 = .ok (.getfield 261, 3) := by decide +kernel
theorem d_Model_scan_246 : decode b_Model_scan 246 = .ok (.iload 6, 2) := by decide +kernel
theorem d_Model_scan_248 : decode b_Model_scan 248 = .ok (.baload, 1) := by decide +kernel
theorem d_Model_scan_249 : decode b_Model_scan 249 = .ok (.bipush 91, 2) := by decide +kernel
theorem d_Model_scan_251 : decode b_Model_scan 251 = .ok (.if_icmp .eq 34, 3) := by decide +kernel
theorem d_Model_scan_254 : decode b_Model_scan 254 = .ok (.aload_n 0, 1) := by decide +kernel
theorem d_Model_scan_255 : decode b_Model_scan 255 = .ok (.getfield 261, 3) := by decide +kernel
theorem d_Model_scan_258 : decode b_Model_scan 258 = .ok (.iload 6, 2) := by decide +kernel
theorem d_Model_scan_260 : decode b_Model_scan 260 = .ok (.baload, 1) := by decide +kernel
theorem d_Model_scan_261 : decode b_Model_scan 261 = .ok (.bipush 93, 2) := by decide +kernel
theorem d_Model_scan_263 : decode b_Model_scan 263 = .ok (.if_icmp .eq 22, 3) := by decide +kernel
theorem d_Model_scan_266 : decode b_Model_scan 266 = .ok (.aload_n 0, 1) := by decide +kernel
theorem d_Model_scan_267 : decode b_Model_scan 267 = .ok (.getfield 261, 3) := by decide +kernel
theorem d_Model_scan_270 : decode b_Model_scan 270 = .ok (.iload 6, 2) := by decide +kernel
theorem d_Model_scan_272 : decode b_Model_scan 272 = .ok (.baload, 1) := by decide +kernel
theorem d_Model_scan_273 : decode b_Model_scan 273 = .ok (.invokestatic 441, 3) := by decide +kernel
theorem d_Model_scan_276 : decode b_Model_scan 276 = .ok (.ifCond .ne 9, 3) := by decide +kernel
theorem d_Model_scan_279 : decode b_Model_scan 279 = .ok (.iinc 6 1, 3) := by decide +kernel
theorem d_Model_scan_282 : decode b_Model_scan 282 = .ok (.goto (-77), 3) := by decide +kernel
theorem d_Model_scan_285 : decode b_Model_scan 285 = .ok (.iload 7, 2) := by decide +kernel
theorem d_Model_scan_287 : decode b_Model_scan 287 = .ok (.ifCond .eq 7, 3) := by decide +kernel
theorem d_Model_scan_290 : decode b_Model_scan 290 = .ok (.iconst 0, 1) := by decide +kernel
theorem d_Model_scan_291 : decode b_Model_scan 291 = .ok (.goto 18, 3) := by decide +kernel
theorem d_Model_scan_294 : decode b_Model_scan 294 = .ok (.aload_n 0, 1) := by decide +kernel
theorem d_Model_scan_295 : decode b_Model_scan 295 = .ok (.aload_n 0, 1) := by decide +kernel
theorem d_Model_scan_296 : decode b_Model_scan 296 = .ok (.getfield 261, 3) := by decide +kernel
theorem d_Model_scan_299 : decode b_Model_scan 299 = .ok (.iload 4, 2) := by decide +kernel
theorem d_Model_scan_301 : decode b_Model_scan 301 = .ok (.iload 6, 2) := by decide +kernel
theorem d_Model_scan_303 : decode b_Model_scan 303 = .ok (.iload 4, 2) := by decide +kernel
theorem d_Model_scan_305 : decode b_Model_scan 305 = .ok (.isub, 1) := by decide +kernel
theorem d_Model_scan_306 : decode b_Model_scan 306 = .ok (.invokevirtual 447, 3) := by decide +kernel
theorem d_Model_scan_309 : decode b_Model_scan 309 = .ok (.istore 8, 2) := by decide +kernel
theorem d_Model_scan_311 : decode b_Model_scan 311 = .ok (.iload 8, 2) := by decide +kernel
theorem d_Model_scan_313 : decode b_Model_scan 313 = .ok (.iconst 2, 1) := by decide +kernel
theorem d_Model_scan_314 : decode b_Model_scan 314 = .ok (.if_icmp .ne 13, 3) := by decide +kernel
theorem d_Model_scan_317 : decode b_Model_scan 317 = .ok (.aload_n 0, 1) := by decide +kernel
theorem d_Model_scan_318 : decode b_Model_scan 318 = .ok (.iconst 2, 1) := by decide +kernel
theorem d_Model_scan_319 : decode b_Model_scan 319 = .ok (.iload 4, 2) := by decide +kernel
theorem d_Model_scan_321 : decode b_Model_scan 321 = .ok (.invokevirtual 437, 3) := by decide +kernel
theorem d_Model_scan_324 : decode b_Model_scan 324 = .ok (.goto 90, 3) := by decide +kernel
theorem d_Model_scan_327 : decode b_Model_scan 327 = .ok (.iload 8, 2) := by decide +kernel
theorem d_Model_scan_329 : decode b_Model_scan 329 = .ok (.ifCond .ne 23, 3) := by decide +kernel
theorem d_Model_scan_332 : decode b_Model_scan 332 = .ok (.iload 6, 2) := by decide +kernel
theorem d_Model_scan_334 : decode b_Model_scan 334 = .ok (.iload 4, 2) := by decide +kernel
theorem d_Model_scan_336 : decode b_Model_scan 336 = .ok (.isub, 1) := by decide +kernel
theorem d_Model_scan_337 : decode b_Model_scan 337 = .ok (.bipush 30, 2) := by decide +kernel
theorem d_Model_scan_339 : decode b_Model_scan 339 = .ok (.if_icmp .le 13, 3) := by decide +kernel
theorem d_Model_scan_342 : decode b_Model_scan 342 = .ok (.aload_n 0, 1) := by decide +kernel
theorem d_Model_scan_343 : decode b_Model_scan 343 = .ok (.iconst 3, 1) := by decide +kernel
theorem d_Model_scan_344 : decode b_Model_scan 344 = .ok (.iload 4, 2) := by decide +kernel
theorem d_Model_scan_346 : decode b_Model_scan 346 = .ok (.invokevirtual 437, 3) := by decide +kernel
theorem d_Model_scan_349 : decode b_Model_scan 349 = .ok (.goto 65, 3) := by decide +kernel
theorem d_Model_scan_352 : decode b_Model_scan 352 = .ok (.iload 5, 2) := by decide +kernel
theorem d_Model_scan_354 : decode b_Model_scan 354 = .ok (.bipush 93, 2) := by decide +kernel
theorem d_Model_scan_356 : decode b_Model_scan 356 = .ok (.if_icmp .ne 17, 3) := by decide +kernel
theorem d_Model_scan_359 : decode b_Model_scan 359 = .ok (.iload_n 3, 1) := by decide +kernel
theorem d_Model_scan_360 : decode b_Model_scan 360 = .ok (.ifCond .ne 13, 3) := by decide +kernel
theorem d_Model_scan_363 : decode b_Model_scan 363 = .ok (.aload_n 0, 1) := by decide +kernel
theorem d_Model_scan_364 : decode b_Model_scan 364 = .ok (.iconst 4, 1) := by decide +kernel
theorem d_Model_scan_365 : decode b_Model_scan 365 = .ok (.iload 4, 2) := by decide +kernel
theorem d_Model_scan_367 : decode b_Model_scan 367 = .ok (.invokevirtual 437, 3) := by decide +kernel
theorem d_Model_scan_370 : decode b_Model_scan 370 = .ok (.goto 44, 3) := by decide +kernel
theorem d_Model_scan_373 : decode b_Model_scan 373 = .ok (.iload 5, 2) := by decide +kernel
theorem d_Model_scan_375 : decode b_Model_scan 375 = .ok (.bipush 91, 2) := by decide +kernel
theorem d_Model_scan_377 : decode b_Model_scan 377 = .ok (.if_icmp .ne 19, 3) := by decide +kernel
theorem d_Model_scan_380 : decode b_Model_scan 380 = .ok (.iload_n 3, 1) := by decide +kernel
theorem d_Model_scan_381 : decode b_Model_scan 381 = .ok (.bipush 20, 2) := by decide +kernel
theorem d_Model_scan_383 : decode b_Model_scan 383 = .ok (.if_icmp .ne 13, 3) := by decide +kernel
theorem d_Model_scan_386 : decode b_Model_scan 386 = .ok (.aload_n 0, 1) := by decide +kernel
theorem d_Model_scan_387 : decode b_Model_scan 387 = .ok (.iconst 5, 1) := by decide +kernel
theorem d_Model_scan_388 : decode b_Model_scan 388 = .ok (.iload 4, 2) := by decide +kernel
theorem d_Model_scan_390 : decode b_Model_scan 390 = .ok (.invokevirtual 437, 3) := by decide +kernel
theorem d_Model_scan_393 : decode b_Model_scan 393 = .ok (.goto 21, 3) := by decide +kernel
theorem d_Model_scan_396 : decode b_Model_scan 396 = .ok (.aload_n 0, 1) := by decide +kernel
theorem d_Model_scan_397 : decode b_Model_scan 397 = .ok (.getfield 425, 3) := by decide +kernel
theorem d_Model_scan_400 : decode b_Model_scan 400 = .ok (.sipush 600, 3) := by decide +kernel
theorem d_Model_scan_403 : decode b_Model_scan 403 = .ok (.if_icmp .ne 11, 3) := by decide +kernel
theorem d_Model_scan_406 : decode b_Model_scan 406 = .ok (.aload_n 0, 1) := by decide +kernel
theorem d_Model_scan_407 : decode b_Model_scan 407 = .ok (.bipush 6, 2) := by decide +kernel
theorem d_Model_scan_409 : decode b_Model_scan 409 = .ok (.iload 4, 2) := by decide +kernel
theorem d_Model_scan_411 : decode b_Model_scan 411 = .ok (.invokevirtual 437, 3) := by decide +kernel
theorem d_Model_scan_414 : decode b_Model_scan 414 = .ok (.aload_n 0, 1) := by decide +kernel
theorem d_Model_scan_415 : decode b_Model_scan 415 = .ok (.getfield 416, 3) := by decide +kernel
theorem d_Model_scan_418 : decode b_Model_scan 418 = .ok (.ifCond .eq 6, 3) := by decide +kernel
theorem d_Model_scan_421 : decode b_Model_scan 421 = .ok (.goto 226, 3) := by decide +kernel
theorem d_Model_scan_424 : decode b_Model_scan 424 = .ok (.aload_n 0, 1) := by decide +kernel
theorem d_Model_scan_425 : decode b_Model_scan 425 = .ok (.getfield 425, 3) := by decide +kernel
theorem d_Model_scan_428 : decode b_Model_scan 428 = .ok (.istore 9, 2) := by decide +kernel
theorem d_Model_scan_430 : decode b_Model_scan 430 = .ok (.aload_n 0, 1) := by decide +kernel
theorem d_Model_scan_431 : decode b_Model_scan 431 = .ok (.dup, 1) := by decide +kernel
theorem d_Model_scan_432 : decode b_Model_scan 432 = .ok (.getfield 425, 3) := by decide +kernel
theorem d_Model_scan_435 : decode b_Model_scan 435 = .ok (.iconst 1, 1) := by decide +kernel
theorem d_Model_scan_436 : decode b_Model_scan 436 = .ok (.iadd, 1) := by decide +kernel
theorem d_Model_scan_437 : decode b_Model_scan 437 = .ok (.putfield 425, 3) := by decide +kernel
theorem d_Model_scan_440 : decode b_Model_scan 440 = .ok (.aload_n 0, 1) := by decide +kernel
theorem d_Model_scan_441 : decode b_Model_scan 441 = .ok (.getfield 267, 3) := by decide +kernel
theorem d_Model_scan_444 : decode b_Model_scan 444 = .ok (.iload 9, 2) := by decide +kernel
theorem d_Model_scan_446 : decode b_Model_scan 446 = .ok (.iload 4, 2) := by decide +kernel
theorem d_Model_scan_448 : decode b_Model_scan 448 = .ok (.iastore, 1) := by decide +kernel
theorem d_Model_scan_449 : decode b_Model_scan 449 = .ok (.aload_n 0, 1) := by decide +kernel
theorem d_Model_scan_450 : decode b_Model_scan 450 = .ok (.getfield 270, 3) := by decide +kernel
theorem d_Model_scan_453 : decode b_Model_scan 453 = .ok (.iload 9, 2) := by decide +kernel
theorem d_Model_scan_455 : decode b_Model_scan 455 = .ok (.iload 6, 2) := by decide +kernel
theorem d_Model_scan_457 : decode b_Model_scan 457 = .ok (.iload 4, 2) := by decide +kernel
theorem d_Model_scan_459 : decode b_Model_scan 459 = .ok (.isub, 1) := by decide +kernel
theorem d_Model_scan_460 : decode b_Model_scan 460 = .ok (.iastore, 1) := by decide +kernel
theorem d_Model_scan_461 : decode b_Model_scan 461 = .ok (.aload_n 0, 1) := by decide +kernel
theorem d_Model_scan_462 : decode b_Model_scan 462 = .ok (.getfield 273, 3) := by decide +kernel
theorem d_Model_scan_465 : decode b_Model_scan 465 = .ok (.iload 9, 2) := by decide +kernel
theorem d_Model_scan_467 : decode b_Model_scan 467 = .ok (.iload 9, 2) := by decide +kernel
theorem d_Model_scan_469 : decode b_Model_scan 469 = .ok (.iastore, 1) := by decide +kernel
theorem d_Model_scan_470 : decode b_Model_scan 470 = .ok (.iload 5, 2) := by decide +kernel
theorem d_Model_scan_472 : decode b_Model_scan 472 = .ok (.bipush 91, 2) := by decide +kernel
theorem d_Model_scan_474 : decode b_Model_scan 474 = .ok (.if_icmp .ne 32, 3) := by decide +kernel
theorem d_Model_scan_477 : decode b_Model_scan 477 = .ok (.iload 7, 2) := by decide +kernel
theorem d_Model_scan_479 : decode b_Model_scan 479 = .ok (.ifCond .eq 27, 3) := by decide +kernel
theorem d_Model_scan_482 : decode b_Model_scan 482 = .ok (.aload_n 0, 1) := by decide +kernel
theorem d_Model_scan_483 : decode b_Model_scan 483 = .ok (.getfield 279, 3) := by decide +kernel
theorem d_Model_scan_486 : decode b_Model_scan 486 = .ok (.iload_n 3, 1) := by decide +kernel
theorem d_Model_scan_487 : decode b_Model_scan 487 = .ok (.iload 9, 2) := by decide +kernel
theorem d_Model_scan_489 : decode b_Model_scan 489 = .ok (.iastore, 1) := by decide +kernel
theorem d_Model_scan_490 : decode b_Model_scan 490 = .ok (.iinc 3 1, 3) := by decide +kernel
theorem d_Model_scan_493 : decode b_Model_scan 493 = .ok (.aload_n 0, 1) := by decide +kernel
theorem d_Model_scan_494 : decode b_Model_scan 494 = .ok (.getfield 276, 3) := by decide +kernel
theorem d_Model_scan_497 : decode b_Model_scan 497 = .ok (.iload 9, 2) := by decide +kernel
theorem d_Model_scan_499 : decode b_Model_scan 499 = .ok (.ldc2_w 7, 3) := by decide +kernel
theorem d_Model_scan_502 : decode b_Model_scan 502 = .ok (.lastore, 1) := by decide +kernel
theorem d_Model_scan_503 : decode b_Model_scan 503 = .ok (.goto 126, 3) := by decide +kernel
theorem d_Model_scan_506 : decode b_Model_scan 506 = .ok (.iload 5, 2) := by decide +kernel
theorem d_Model_scan_508 : decode b_Model_scan 508 = .ok (.bipush 93, 2) := by decide +kernel
theorem d_Model_scan_510 : decode b_Model_scan 510 = .ok (.if_icmp .ne 37, 3) := by decide +kernel
theorem d_Model_scan_513 : decode b_Model_scan 513 = .ok (.iload 7, 2) := by decide +kernel
theorem d_Model_scan_515 : decode b_Model_scan 515 = .ok (.ifCond .eq 32, 3) := by decide +kernel
theorem d_Model_scan_518 : decode b_Model_scan 518 = .ok (.iinc 3 (-1), 3) := by decide +kernel
theorem d_Model_scan_521 : decode b_Model_scan 521 = .ok (.aload_n 0, 1) := by decide +kernel
theorem d_Model_scan_522 : decode b_Model_scan 522 = .ok (.getfield 273, 3) := by decide +kernel
theorem d_Model_scan_525 : decode b_Model_scan 525 = .ok (.aload_n 0, 1) := by decide +kernel
theorem d_Model_scan_526 : decode b_Model_scan 526 = .ok (.getfield 279, 3) := by decide +kernel
theorem d_Model_scan_529 : decode b_Model_scan 529 = .ok (.iload_n 3, 1) := by decide +kernel
theorem d_Model_scan_530 : decode b_Model_scan 530 = .ok (.iaload, 1) := by decide +kernel
theorem d_Model_scan_531 : decode b_Model_scan 531 = .ok (.iload 9, 2) := by decide +kernel
theorem d_Model_scan_533 : decode b_Model_scan 533 = .ok (.iastore, 1) := by decide +kernel
theorem d_Model_scan_534 : decode b_Model_scan 534 = .ok (.aload_n 0, 1) := by decide +kernel
theorem d_Model_scan_535 : decode b_Model_scan 535 = .ok (.getfield 276, 3) := by decide +kernel
theorem d_Model_scan_538 : decode b_Model_scan 538 = .ok (.iload 9, 2) := by decide +kernel
theorem d_Model_scan_540 : decode b_Model_scan 540 = .ok (.ldc2_w 7, 3) := by decide +kernel
theorem d_Model_scan_543 : decode b_Model_scan 543 = .ok (.lastore, 1) := by decide +kernel
theorem d_Model_scan_544 : decode b_Model_scan 544 = .ok (.goto 85, 3) := by decide +kernel
theorem d_Model_scan_547 : decode b_Model_scan 547 = .ok (.iload 8, 2) := by decide +kernel
theorem d_Model_scan_549 : decode b_Model_scan 549 = .ok (.iconst 1, 1) := by decide +kernel
theorem d_Model_scan_550 : decode b_Model_scan 550 = .ok (.if_icmp .ne 20, 3) := by decide +kernel
theorem d_Model_scan_553 : decode b_Model_scan 553 = .ok (.aload_n 0, 1) := by decide +kernel
theorem d_Model_scan_554 : decode b_Model_scan 554 = .ok (.getfield 276, 3) := by decide +kernel
theorem d_Model_scan_557 : decode b_Model_scan 557 = .ok (.iload 9, 2) := by decide +kernel
theorem d_Model_scan_559 : decode b_Model_scan 559 = .ok (.aload_n 0, 1) := by decide +kernel
theorem d_Model_scan_560 : decode b_Model_scan 560 = .ok (.getfield 146, 3) := by decide +kernel
theorem d_Model_scan_563 : decode b_Model_scan 563 = .ok (.invokestatic 451, 3) := by decide +kernel
theorem d_Model_scan_566 : decode b_Model_scan 566 = .ok (.lastore, 1) := by decide +kernel
theorem d_Model_scan_567 : decode b_Model_scan 567 = .ok (.goto 62, 3) := by decide +kernel
theorem d_Model_scan_570 : decode b_Model_scan 570 = .ok (.aload_n 0, 1) := by decide +kernel
theorem d_Model_scan_571 : decode b_Model_scan 571 = .ok (.getfield 261, 3) := by decide +kernel
theorem d_Model_scan_574 : decode b_Model_scan 574 = .ok (.iload 4, 2) := by decide +kernel
theorem d_Model_scan_576 : decode b_Model_scan 576 = .ok (.aload_n 0, 1) := by decide +kernel
theorem d_Model_scan_577 : decode b_Model_scan 577 = .ok (.getfield 67, 3) := by decide +kernel
theorem d_Model_scan_580 : decode b_Model_scan 580 = .ok (.aload_n 0, 1) := by decide +kernel
theorem d_Model_scan_581 : decode b_Model_scan 581 = .ok (.getfield 372, 3) := by decide +kernel
theorem d_Model_scan_584 : decode b_Model_scan 584 = .ok (.iload 6, 2) := by decide +kernel
theorem d_Model_scan_586 : decode b_Model_scan 586 = .ok (.iload 4, 2) := by decide +kernel
theorem d_Model_scan_588 : decode b_Model_scan 588 = .ok (.isub, 1) := by decide +kernel
theorem d_Model_scan_589 : decode b_Model_scan 589 = .ok (.invokestatic 334, 3) := by decide +kernel
theorem d_Model_scan_592 : decode b_Model_scan 592 = .ok (.aload_n 0, 1) := by decide +kernel
theorem d_Model_scan_593 : decode b_Model_scan 593 = .ok (.getfield 276, 3) := by decide +kernel
theorem d_Model_scan_596 : decode b_Model_scan 596 = .ok (.iload 9, 2) := by decide +kernel
theorem d_Model_scan_598 : decode b_Model_scan 598 = .ok (.aload_n 0, 1) := by decide +kernel
theorem d_Model_scan_599 : decode b_Model_scan 599 = .ok (.aload_n 0, 1) := by decide +kernel
theorem d_Model_scan_600 : decode b_Model_scan 600 = .ok (.getfield 372, 3) := by decide +kernel
theorem d_Model_scan_603 : decode b_Model_scan 603 = .ok (.iload 6, 2) := by decide +kernel
theorem d_Model_scan_605 : decode b_Model_scan 605 = .ok (.iload 4, 2) := by decide +kernel
theorem d_Model_scan_607 : decode b_Model_scan 607 = .ok (.isub, 1) := by decide +kernel
theorem d_Model_scan_608 : decode b_Model_scan 608 = .ok (.invokevirtual 454, 3) := by decide +kernel
theorem d_Model_scan_611 : decode b_Model_scan 611 = .ok (.invokestatic 396, 3) := by decide +kernel
theorem d_Model_scan_614 : decode b_Model_scan 614 = .ok (.lastore, 1) := by decide +kernel
theorem d_Model_scan_615 : decode b_Model_scan 615 = .ok (.aload_n 0, 1) := by decide +kernel
theorem d_Model_scan_616 : decode b_Model_scan 616 = .ok (.dup, 1) := by decide +kernel
theorem d_Model_scan_617 : decode b_Model_scan 617 = .ok (.getfield 372, 3) := by decide +kernel
theorem d_Model_scan_620 : decode b_Model_scan 620 = .ok (.iload 6, 2) := by decide +kernel
theorem d_Model_scan_622 : decode b_Model_scan 622 = .ok (.iload 4, 2) := by decide +kernel
theorem d_Model_scan_624 : decode b_Model_scan 624 = .ok (.isub, 1) := by decide +kernel
theorem d_Model_scan_625 : decode b_Model_scan 625 = .ok (.iadd, 1) := by decide +kernel
theorem d_Model_scan_626 : decode b_Model_scan 626 = .ok (.putfield 372, 3) := by decide +kernel
theorem d_Model_scan_629 : decode b_Model_scan 629 = .ok (.iload_n 1, 1) := by decide +kernel
theorem d_Model_scan_630 : decode b_Model_scan 630 = .ok (.ifCond .eq 10, 3) := by decide +kernel
theorem d_Model_scan_633 : decode b_Model_scan 633 = .ok (.aload_n 0, 1) := by decide +kernel
theorem d_Model_scan_634 : decode b_Model_scan 634 = .ok (.iload 9, 2) := by decide +kernel
theorem d_Model_scan_636 : decode b_Model_scan 636 = .ok (.iload_n 3, 1) := by decide +kernel
theorem d_Model_scan_637 : decode b_Model_scan 637 = .ok (.invokevirtual 458, 3) := by decide +kernel
theorem d_Model_scan_640 : decode b_Model_scan 640 = .ok (.iload 6, 2) := by decide +kernel
theorem d_Model_scan_642 : decode b_Model_scan 642 = .ok (.istore 4, 2) := by decide +kernel
theorem d_Model_scan_644 : decode b_Model_scan 644 = .ok (.goto (-609), 3) := by decide +kernel
theorem d_Model_scan_647 : decode b_Model_scan 647 = .ok (.aload_n 0, 1) := by decide +kernel
theorem d_Model_scan_648 : decode b_Model_scan 648 = .ok (.getfield 416, 3) := by decide +kernel
theorem d_Model_scan_651 : decode b_Model_scan 651 = .ok (.ifCond .ne 13, 3) := by decide +kernel
theorem d_Model_scan_654 : decode b_Model_scan 654 = .ok (.iload_n 3, 1) := by decide +kernel
theorem d_Model_scan_655 : decode b_Model_scan 655 = .ok (.ifCond .le 9, 3) := by decide +kernel
theorem d_Model_scan_658 : decode b_Model_scan 658 = .ok (.aload_n 0, 1) := by decide +kernel
theorem d_Model_scan_659 : decode b_Model_scan 659 = .ok (.iconst 4, 1) := by decide +kernel
theorem d_Model_scan_660 : decode b_Model_scan 660 = .ok (.iload_n 2, 1) := by decide +kernel
theorem d_Model_scan_661 : decode b_Model_scan 661 = .ok (.invokevirtual 437, 3) := by decide +kernel
theorem d_Model_scan_664 : decode b_Model_scan 664 = .ok (.iload_n 1, 1) := by decide +kernel
theorem d_Model_scan_665 : decode b_Model_scan 665 = .ok (.ifCond .eq 43, 3) := by decide +kernel
theorem d_Model_scan_668 : decode b_Model_scan 668 = .ok (.aload_n 0, 1) := by decide +kernel
theorem d_Model_scan_669 : decode b_Model_scan 669 = .ok (.getfield 416, 3) := by decide +kernel
theorem d_Model_scan_672 : decode b_Model_scan 672 = .ok (.ifCond .ne 36, 3) := by decide +kernel
theorem d_Model_scan_675 : decode b_Model_scan 675 = .ok (.aload_n 0, 1) := by decide +kernel
theorem d_Model_scan_676 : decode b_Model_scan 676 = .ok (.getfield 428, 3) := by decide +kernel
theorem d_Model_scan_679 : decode b_Model_scan 679 = .ok (.iconst 1, 1) := by decide +kernel
theorem d_Model_scan_680 : decode b_Model_scan 680 = .ok (.if_icmp .ne 13, 3) := by decide +kernel
theorem d_Model_scan_683 : decode b_Model_scan 683 = .ok (.aload_n 0, 1) := by decide +kernel
theorem d_Model_scan_684 : decode b_Model_scan 684 = .ok (.bipush 8, 2) := by decide +kernel
theorem d_Model_scan_686 : decode b_Model_scan 686 = .ok (.iload_n 2, 1) := by decide +kernel
theorem d_Model_scan_687 : decode b_Model_scan 687 = .ok (.invokevirtual 437, 3) := by decide +kernel
theorem d_Model_scan_690 : decode b_Model_scan 690 = .ok (.goto 18, 3) := by decide +kernel
theorem d_Model_scan_693 : decode b_Model_scan 693 = .ok (.aload_n 0, 1) := by decide +kernel
theorem d_Model_scan_694 : decode b_Model_scan 694 = .ok (.getfield 428, 3) := by decide +kernel
theorem d_Model_scan_697 : decode b_Model_scan 697 = .ok (.iconst 1, 1) := by decide +kernel
theorem d_Model_scan_698 : decode b_Model_scan 698 = .ok (.if_icmp .le 10, 3) := by decide +kernel
theorem d_Model_scan_701 : decode b_Model_scan 701 = .ok (.aload_n 0, 1) := by decide +kernel
theorem d_Model_scan_702 : decode b_Model_scan 702 = .ok (.bipush 10, 2) := by decide +kernel
theorem d_Model_scan_704 : decode b_Model_scan 704 = .ok (.iload_n 2, 1) := by decide +kernel
theorem d_Model_scan_705 : decode b_Model_scan 705 = .ok (.invokevirtual 437, 3) := by decide +kernel
theorem d_Model_scan_708 : decode b_Model_scan 708 = .ok (.aload_n 0, 1) := by decide +kernel
theorem d_Model_scan_709 : decode b_Model_scan 709 = .ok (.getfield 416, 3) := by decide +kernel
theorem d_Model_scan_712 : decode b_Model_scan 712 = .ok (.ifCond .ne 7, 3) := by decide +kernel
theorem d_Model_scan_715 : decode b_Model_scan 715 = .ok (.iconst 1, 1) := by decide +kernel
theorem d_Model_scan_716 : decode b_Model_scan 716 = .ok (.goto 4, 3) := by decide +kernel
theorem d_Model_scan_719 : decode b_Model_scan 719 = .ok (.iconst 0, 1) := by decide +kernel
theorem d_Model_scan_720 : decode b_Model_scan 720 = .ok (.ireturn, 1) := by decide +kernel
theorem lk_Model_425 : Cond.fieldLink "TurtleWorldModel" 425 "TurtleWorldModel" "tokens" "I" ∈ tw_T := tw_i8 159 (by decide +kernel) (by decide +kernel)
theorem lk_Model_428 : Cond.fieldLink "TurtleWorldModel" 428 "TurtleWorldModel" "state" "I" ∈ tw_T := tw_i8 162 (by decide +kernel) (by decide +kernel)
theorem lk_Model_431 : Cond.fieldLink "TurtleWorldModel" 431 "TurtleWorldModel" "newProcs" "I" ∈ tw_T := tw_i8 163 (by decide +kernel) (by decide +kernel)
theorem d_Model_define_0 : decode b_Model_define 0 = .ok (.aload_n 0, 1) := by decide +kernel
theorem d_Model_define_1 : decode b_Model_define 1 = .ok (.iconst 0, 1) := by decide +kernel
theorem d_Model_define_2 : decode b_Model_define 2 = .ok (.putfield 1, 3) := by decide +kernel
theorem d_Model_define_5 : decode b_Model_define 5 = .ok (.aload_n 0, 1) := by decide +kernel
theorem d_Model_define_6 : decode b_Model_define 6 = .ok (.getfield 494, 3) := by decide +kernel
theorem d_Model_define_9 : decode b_Model_define 9 = .ok (.iconst 1, 1) := by decide +kernel
theorem d_Model_define_10 : decode b_Model_define 10 = .ok (.if_icmp .ne 6, 3) := by decide +kernel
theorem d_Model_define_13 : decode b_Model_define 13 = .ok (.bipush (-20), 2) := by decide +kernel
theorem d_Model_define_15 : decode b_Model_define 15 = .ok (.ireturn, 1) := by decide +kernel
theorem d_Model_define_16 : decode b_Model_define 16 = .ok (.aload_n 0, 1) := by decide +kernel
theorem d_Model_define_17 : decode b_Model_define 17 = .ok (.getfield 372, 3) := by decide +kernel
theorem d_Model_define_20 : decode b_Model_define 20 = .ok (.istore_n 1, 1) := by decide +kernel
theorem d_Model_define_21 : decode b_Model_define 21 = .ok (.aload_n 0, 1) := by decide +kernel
theorem d_Model_define_22 : decode b_Model_define 22 = .ok (.getfield 19, 3) := by decide +kernel
theorem d_Model_define_25 : decode b_Model_define 25 = .ok (.istore_n 2, 1) := by decide +kernel
theorem d_Model_define_26 : decode b_Model_define 26 = .ok (.aload_n 0, 1) := by decide +kernel
theorem d_Model_define_27 : decode b_Model_define 27 = .ok (.getfield 32, 3) := by decide +kernel
theorem d_Model_define_30 : decode b_Model_define 30 = .ok (.istore_n 3, 1) := by decide +kernel
theorem d_Model_define_31 : decode b_Model_define 31 = .ok (.aload_n 0, 1) := by decide +kernel
theorem d_Model_define_32 : decode b_Model_define 32 = .ok (.getfield 44, 3) := by decide +kernel
theorem d_Model_define_35 : decode b_Model_define 35 = .ok (.istore 4, 2) := by decide +kernel
theorem d_Model_define_37 : decode b_Model_define 37 = .ok (.aload_n 0, 1) := by decide +kernel
theorem d_Model_define_38 : decode b_Model_define 38 = .ok (.iconst 0, 1) := by decide +kernel
theorem d_Model_define_39 : decode b_Model_define 39 = .ok (.putfield 482, 3) := by decide +kernel
theorem d_Model_define_42 : decode b_Model_define 42 = .ok (.aload_n 0, 1) := by decide +kernel
theorem d_Model_define_43 : decode b_Model_define 43 = .ok (.iconst 1, 1) := by decide +kernel
theorem d_Model_define_44 : decode b_Model_define 44 = .ok (.invokevirtual 497, 3) := by decide +kernel
theorem d_Model_define_47 : decode b_Model_define 47 = .ok (.istore 5, 2) := by decide +kernel
theorem d_Model_define_49 : decode b_Model_define 49 = .ok (.aload_n 0, 1) := by decide +kernel
theorem d_Model_define_50 : decode b_Model_define 50 = .ok (.iconst 0, 1) := by decide +kernel
theorem d_Model_define_51 : decode b_Model_define 51 = .ok (.putfield 409, 3) := by decide +kernel
theorem d_Model_define_54 : decode b_Model_define 54 = .ok (.iload 5, 2) := by decide +kernel
theorem d_Model_define_56 : decode b_Model_define 56 = .ok (.ifCond .eq 10, 3) := by decide +kernel
theorem d_Model_define_59 : decode b_Model_define 59 = .ok (.aload_n 0, 1) := by decide +kernel
theorem d_Model_define_60 : decode b_Model_define 60 = .ok (.getfield 482, 3) := by decide +kernel
theorem d_Model_define_63 : decode b_Model_define 63 = .ok (.ifCond .ne 30, 3) := by decide +kernel
theorem d_Model_define_66 : decode b_Model_define 66 = .ok (.aload_n 0, 1) := by decide +kernel
theorem d_Model_define_67 : decode b_Model_define 67 = .ok (.iload_n 1, 1) := by decide +kernel
theorem d_Model_define_68 : decode b_Model_define 68 = .ok (.putfield 372, 3) := by decide +kernel
theorem d_Model_define_71 : decode b_Model_define 71 = .ok (.aload_n 0, 1) := by decide +kernel
theorem d_Model_define_72 : decode b_Model_define 72 = .ok (.iload_n 2, 1) := by decide +kernel
theorem d_Model_define_73 : decode b_Model_define 73 = .ok (.putfield 19, 3) := by decide +kernel
theorem d_Model_define_76 : decode b_Model_define 76 = .ok (.aload_n 0, 1) := by decide +kernel
theorem d_Model_define_77 : decode b_Model_define 77 = .ok (.iload_n 3, 1) := by decide +kernel
theorem d_Model_define_78 : decode b_Model_define 78 = .ok (.putfield 32, 3) := by decide +kernel
theorem d_Model_define_81 : decode b_Model_define 81 = .ok (.aload_n 0, 1) := by decide +kernel
theorem d_Model_define_82 : decode b_Model_define 82 = .ok (.iload 4, 2) := by decide +kernel
theorem d_Model_define_84 : decode b_Model_define 84 = .ok (.putfield 44, 3) := by decide +kernel
theorem d_Model_define_87 : decode b_Model_define 87 = .ok (.aload_n 0, 1) := by decide +kernel
theorem d_Model_define_88 : decode b_Model_define 88 = .ok (.getfield 416, 3) := by decide +kernel
theorem d_Model_define_91 : decode b_Model_define 91 = .ok (.ineg, 1) := by decide +kernel
theorem d_Model_define_92 : decode b_Model_define 92 = .ok (.ireturn, 1) := by decide +kernel
theorem d_Model_define_93 : decode b_Model_define 93 = .ok (.iconst 0, 1) := by decide +kernel
theorem d_Model_define_94 : decode b_Model_define 94 = .ok (.istore 6, 2) := by decide +kernel
theorem d_Model_define_96 : decode b_Model_define 96 = .ok (.iload 6, 2) := by decide +kernel
theorem d_Model_define_98 : decode b_Model_define 98 = .ok (.aload_n 0, 1) := by decide +kernel
theorem d_Model_define_99 : decode b_Model_define 99 = .ok (.getfield 482, 3) := by decide +kernel
theorem d_Model_define_102 : decode b_Model_define 102 = .ok (.if_icmp .ge 106, 3) := by decide +kernel
theorem d_Model_define_105 : decode b_Model_define 105 = .ok (.aload_n 0, 1) := by decide +kernel
theorem d_Model_define_106 : decode b_Model_define 106 = .ok (.aload_n 0, 1) := by decide +kernel
theorem d_Model_define_107 : decode b_Model_define 107 = .ok (.getfield 285, 3) := by decide +kernel
theorem d_Model_define_110 : decode b_Model_define 110 = .ok (.iload 6, 2) := by decide +kernel
theorem d_Model_define_112 : decode b_Model_define 112 = .ok (.iaload, 1) := by decide +kernel
theorem d_Model_define_113 : decode b_Model_define 113 = .ok (.invokevirtual 501, 3) := by decide +kernel
theorem d_Model_define_116 : decode b_Model_define 116 = .ok (.istore 7, 2) := by decide +kernel
theorem d_Model_define_118 : decode b_Model_define 118 = .ok (.aload_n 0, 1) := by decide +kernel
theorem d_Model_define_119 : decode b_Model_define 119 = .ok (.getfield 186, 3) := by decide +kernel
theorem d_Model_define_122 : decode b_Model_define 122 = .ok (.iload 7, 2) := by decide +kernel
theorem d_Model_define_124 : decode b_Model_define 124 = .ok (.aload_n 0, 1) := by decide +kernel
theorem d_Model_define_125 : decode b_Model_define 125 = .ok (.getfield 288, 3) := by decide +kernel
theorem d_Model_define_128 : decode b_Model_define 128 = .ok (.iload 6, 2) := by decide +kernel
theorem d_Model_define_130 : decode b_Model_define 130 = .ok (.iaload, 1) := by decide +kernel
theorem d_Model_define_131 : decode b_Model_define 131 = .ok (.iastore, 1) := by decide +kernel
theorem d_Model_define_132 : decode b_Model_define 132 = .ok (.iconst 0, 1) := by decide +kernel
theorem d_Model_define_133 : decode b_Model_define 133 = .ok (.istore 8, 2) := by decide +kernel
theorem d_Model_define_135 : decode b_Model_define 135 = .ok (.iload 8, 2) := by decide +kernel
theorem d_Model_define_137 : decode b_Model_define 137 = .ok (.aload_n 0, 1) := by decide +kernel
theorem d_Model_define_138 : decode b_Model_define 138 = .ok (.getfield 288, 3) := by decide +kernel
theorem d_Model_define_141 : decode b_Model_define 141 = .ok (.iload 6, 2) := by decide +kernel
theorem d_Model_define_143 : decode b_Model_define 143 = .ok (.iaload, 1) := by decide +kernel
theorem d_Model_define_144 : decode b_Model_define 144 = .ok (.if_icmp .ge 33, 3) := by decide +kernel
theorem d_Model_define_147 : decode b_Model_define 147 = .ok (.aload_n 0, 1) := by decide +kernel
theorem d_Model_define_148 : decode b_Model_define 148 = .ok (.getfield 189, 3) := by decide +kernel
theorem d_Model_define_151 : decode b_Model_define 151 = .ok (.iconst 5, 1) := by decide +kernel
theorem d_Model_define_152 : decode b_Model_define 152 = .ok (.iload 7, 2) := by decide +kernel
theorem d_Model_define_154 : decode b_Model_define 154 = .ok (.imul, 1) := by decide +kernel
theorem d_Model_define_155 : decode b_Model_define 155 = .ok (.iload 8, 2) := by decide +kernel
theorem d_Model_define_157 : decode b_Model_define 157 = .ok (.iadd, 1) := by decide +kernel
theorem d_Model_define_158 : decode b_Model_define 158 = .ok (.aload_n 0, 1) := by decide +kernel
theorem d_Model_define_159 : decode b_Model_define 159 = .ok (.getfield 291, 3) := by decide +kernel
theorem d_Model_define_162 : decode b_Model_define 162 = .ok (.iconst 5, 1) := by decide +kernel
theorem d_Model_define_163 : decode b_Model_define 163 = .ok (.iload 6, 2) := by decide +kernel
theorem d_Model_define_165 : decode b_Model_define 165 = .ok (.imul, 1) := by decide +kernel
theorem d_Model_define_166 : decode b_Model_define 166 = .ok (.iload 8, 2) := by decide +kernel
theorem d_Model_define_168 : decode b_Model_define 168 = .ok (.iadd, 1) := by decide +kernel
theorem d_Model_define_169 : decode b_Model_define 169 = .ok (.iaload, 1) := by decide +kernel
theorem d_Model_define_170 : decode b_Model_define 170 = .ok (.iastore, 1) := by decide +kernel
theorem d_Model_define_171 : decode b_Model_define 171 = .ok (.iinc 8 1, 3) := by decide +kernel
theorem d_Model_define_174 : decode b_Model_define 174 = .ok (.goto (-39), 3) := by decide +kernel
theorem d_Model_define_177 : decode b_Model_define 177 = .ok (.aload_n 0, 1) := by decide +kernel
theorem d_Model_define_178 : decode b_Model_define 178 = .ok (.getfield 192, 3) := by decide +kernel
theorem d_Model_define_181 : decode b_Model_define 181 = .ok (.iload 7, 2) := by decide +kernel
theorem d_Model_define_183 : decode b_Model_define 183 = .ok (.aload_n 0, 1) := by decide +kernel
theorem d_Model_define_184 : decode b_Model_define 184 = .ok (.aload_n 0, 1) := by decide +kernel
theorem d_Model_define_185 : decode b_Model_define 185 = .ok (.getfield 294, 3) := by decide +kernel
theorem d_Model_define_188 : decode b_Model_define 188 = .ok (.iload 6, 2) := by decide +kernel
theorem d_Model_define_190 : decode b_Model_define 190 = .ok (.iaload, 1) := by decide +kernel
theorem d_Model_define_191 : decode b_Model_define 191 = .ok (.aload_n 0, 1) := by decide +kernel
theorem d_Model_define_192 : decode b_Model_define 192 = .ok (.getfield 297, 3) := by decide +kernel
theorem d_Model_define_195 : decode b_Model_define 195 = .ok (.iload 6, 2) := by decide +kernel
theorem d_Model_define_197 : decode b_Model_define 197 = .ok (.iaload, 1) := by decide +kernel
theorem d_Model_define_198 : decode b_Model_define 198 = .ok (.invokevirtual 504, 3) := by decide +kernel
theorem d_Model_define_201 : decode b_Model_define 201 = .ok (.lastore, 1) := by decide +kernel
theorem d_Model_define_202 : decode b_Model_define 202 = .ok (.iinc 6 1, 3) := by decide +kernel
theorem d_Model_define_205 : decode b_Model_define 205 = .ok (.goto (-109), 3) := by decide +kernel
theorem d_Model_define_208 : decode b_Model_define 208 = .ok (.aload_n 0, 1) := by decide +kernel
theorem d_Model_define_209 : decode b_Model_define 209 = .ok (.iconst 1, 1) := by decide +kernel
theorem d_Model_define_210 : decode b_Model_define 210 = .ok (.putfield 507, 3) := by decide +kernel
theorem d_Model_define_213 : decode b_Model_define 213 = .ok (.aload_n 0, 1) := by decide +kernel
theorem d_Model_define_214 : decode b_Model_define 214 = .ok (.iconst 0, 1) := by decide +kernel
theorem d_Model_define_215 : decode b_Model_define 215 = .ok (.invokestatic 451, 3) := by decide +kernel
theorem d_Model_define_218 : decode b_Model_define 218 = .ok (.invokevirtual 511, 3) := by decide +kernel
theorem d_Model_define_221 : decode b_Model_define 221 = .ok (.lstore 6, 2) := by decide +kernel
theorem d_Model_define_223 : decode b_Model_define 223 = .ok (.aload_n 0, 1) := by decide +kernel
theorem d_Model_define_224 : decode b_Model_define 224 = .ok (.getfield 482, 3) := by decide +kernel
theorem d_Model_define_227 : decode b_Model_define 227 = .ok (.ireturn, 1) := by decide +kernel
theorem lk_Model_372 : Cond.fieldLink "TurtleWorldModel" 372 "TurtleWorldModel" "letters" "I" ∈ tw_T := tw_i8 96 (by decide +kernel) (by decide +kernel)
theorem lk_Model_44 : Cond.fieldLink "TurtleWorldModel" 44 "TurtleWorldModel" "lists" "I" ∈ tw_T := tw_i8 99 (by decide +kernel) (by decide +kernel)
theorem lk_Model_482 : Cond.fieldLink "TurtleWorldModel" 482 "TurtleWorldModel" "definitions" "I" ∈ tw_T := tw_i8 164 (by decide +kernel) (by decide +kernel)
theorem lk_Model_497 : Cond.methodLink "TurtleWorldModel" 497 ⟨"TurtleWorldModel", "scan", "(Z)Z"⟩ ∈ tw_T := tw_i9 233 (by decide +kernel) (by decide +kernel)
theorem in_Model_scan : Cond.instanceMethod ⟨"TurtleWorldModel", "scan", "(Z)Z"⟩ ∈ tw_T := tw_i9 235 (by decide +kernel) (by decide +kernel)
theorem sel_Model_scan : Cond.selects "TurtleWorldModel" ⟨"TurtleWorldModel", "scan", "(Z)Z"⟩ ⟨"TurtleWorldModel", "scan", "(Z)Z"⟩ ∈ tw_T := tw_inS 89 (by decide +kernel) (by decide +kernel)
/-- the reference's ints as they are at first -/
def mi0 (sd : Int32) : Nat → Int32 := fun k => if k = 46 then sd else if k = 76 then -1 else 0
/-- 'ldc_w' of a text -/
theorem tw_ldcwX {p : Program} {l : Launch} {e : Env} {R : Room} {s : State} {m : MethodId} {args : Array Value} {below : List Frame} {meth : Method} {c : Code} {T : State} {locs : List Loc} {cells slots : Nat}
    (X : Stand p l e R s m args below meth c T locs cells slots) (hexec : p.tables.exec = Jvm.exec) {own text : String} {index : Nat} {a : Addr} (hown : s.vm.findClass own = some m.cls)
    (hconst : (Cond.stringRef own index text).before #[] s = true) (hev : (Term.string own index).eval #[] s none [] s = some (.ref a)) {g : JFrame} (hg : g.method = m) (hdg : decode c.code g.pc = .ok (.ldc_w index, 3)) :
    ∀ target, Steps p.tables e below (T.setTop { g with pc := g.pc + 3, stack := .ref a :: g.stack }) target → Steps p.tables e below (T.setTop g) target := by
  obtain ⟨k, cf, i, a', hk, hcf, hcp, -, hr, hev'⟩ := Cond.stringRef_spec hown hconst
  cases hev.symm.trans hev'
  obtain ⟨k', hk', he⟩ := X.warmed.alike.2.2 _ _ hk
  have hr' : k'.resolved[index]? = some (some (.string a)) := by
    rcases X.warmed.entry hk hk' index with h | ⟨h, -⟩
    · rw [h]; exact hr
    · rw [hr] at h; cases h
  intro target hrest
  subst hg
  jvm_step X.here [hexec, hdg, ldc_w.wp_string (e := e) (s := T) (f := g) X.here.top hk' (by rw [he]; exact hcf) hcp hr']
  exact hrest
theorem tw_ldcwS {p : Program} {l : Launch} {e : Env} {R : Room} {s : State} {m : MethodId} {args : Array Value} {below : List Frame} {meth : Method} {c : Code} {H : Heap} {locs : List Loc} {cells slots : Nat} {Q : State → Prop} {cc : ByteArray} {pc : Nat} {ls : Array Slot} {rest : List Value}
    (hexec : p.tables.exec = Jvm.exec) (hb : c.code = cc) {own tx : String} {index q : Nat} (hown : s.vm.findClass own = some m.cls) (hZ : vk_R own index tx q s) (hdg : decode cc pc = .ok (.ldc_w index, 3))
    (k : W p l e R s m args below meth c H locs cells slots Q (F0 m (pc + 3) ls (.ref q :: rest))) : W p l e R s m args below meth c H locs cells slots Q (F0 m pc ls rest) := by
  intro T hT X
  obtain ⟨t, a1, b1⟩ := k T hT X
  exact ⟨t, tw_ldcwX X hexec hown (text := tx) (a := q) hZ.1 hZ.2 (g := F0 m pc ls rest) rfl (by rw [hb]; exact hdg) t a1, b1⟩

set_option maxHeartbeats 4000000 in
set_option maxRecDepth 100000 in
theorem c_Model_scan_c1 (l : Launch) (dC : Nat → ClassId) (dI : Nat → Nat → Nat) (sz : Nat) (h0 : Nat) (v_r : Nat → Nat) (cI : ClassId) (cJ : ClassId) (cB : ClassId) (sd : Int32)  : Met l y_Model_scan w_Model_scan ({ frames := 0, cells := 0, slots := 0, locals := 0 }) (va_Pc [.ref h0, .int 1] (fun U => U.heap.size = sz ∧ va_P (dC, dI) classes [(h0, .inr (12, mo v_r (upd (upd (mi0 sd) 0 0) 86 0) (fun _ => 0)))] U.heap ∧ va_K (dC, dI) classes [(cI, .int), (cJ, .long), (cB, .byte)] U ∧ va_D (fun _ => True) [(h0, .inr (12, mo v_r (upd (upd (mi0 sd) 0 0) 86 0) (fun _ => 0)))])) (va_Qi (fun (r : Int32) (_ : Unit) => r = 1) (fun (_ : Unit) t => va_P (dC, dI) classes [(h0, .inr (12, mo v_r (upd (upd (upd (upd (upd (upd (upd (mi0 sd) 0 0) 86 0) 75 0) 76 ((-1))) 81 0) 84 0) 85 0) (fun _ => 0)))] t.heap ∧ va_K (dC, dI) classes [(cI, .int), (cJ, .long), (cB, .byte)] t ∧ va_D (va_A [(h0, .inr (12, mo v_r (upd (upd (mi0 sd) 0 0) 86 0) (fun _ => 0)))] sz) [(h0, .inr (12, mo v_r (upd (upd (upd (upd (upd (upd (upd (mi0 sd) 0 0) 86 0) 75 0) 76 ((-1))) 81 0) 84 0) 85 0) (fun _ => 0)))]) (va_A [(h0, .inr (12, mo v_r (upd (upd (mi0 sd) 0 0) 86 0) (fun _ => 0)))] sz)) 0 0 (va_A [(h0, .inr (12, mo v_r (upd (upd (mi0 sd) 0 0) 86 0) (fun _ => 0)))] sz) := by
  refine Met.ofW (cc := b_Model_scan) (maxL := 10) (ret := (some .boolean)) (by decide) rfl ?_
  intro p e s m args below meth c s₁ B hml hv
  obtain ⟨rfl, hsz, hP, hK, hD0⟩ := hv
  have hx := B.exec
  have hb := B.bytes
  have hr := B.returns
  have hts := atoms_spec (ws := w_Model_scan) B.pre
  have htt : ∀ w ∈ tw_T, w.before _ s = true := fun w h => hts w (List.mem_cons_of_mem _ h)
  have hown : s.vm.findClass R_Model = some m.cls := findClass_of_methodNamed B.named
  have hlocks := B.notSynchronized
  subst hsz
  have hD := hD0.self (sz := s.heap.size)
  generalize hAe : va_A [(h0, .inr (12, mo v_r (upd (upd (mi0 sd) 0 0) 86 0) (fun _ => 0)))] s.heap.size = A at hD ⊢
  have hA : ∀ q : Nat, s.heap.size ≤ q → A q := fun q h => by rw [← hAe]; exact Or.inr h
  have hS : va_S A s.heap s.heap [] := va_S.rf
  have hP : va_P (dC, dI) classes [(h0, .inr (12, mo v_r (upd (upd (mi0 sd) 0 0) 86 0) (fun _ => 0)))] s.heap := hP
  have hl := lv_entry ([.ref h0, .int 1]) (n := 10) (Nat.le_of_ble_eq_true rfl)
  rw [lg_entry_eq]
  generalize (lg_sl ([.ref h0, .int 1]) ++ List.replicate (10 - (lg_sl ([.ref h0, .int 1])).length) Slot.unset).toArray = ls at hl ⊢
  have hl : lv_has ls 10 [(0, .ref h0), (1, .int 1)] := hl
  refine lv_aload_n hx hb d_Model_scan_0 rfl (lv_at hl 0 rfl) ?_
  refine va_get (D := (dC, dI)) (ci := 12) (v := .int 0) (C := R_Model) (T := F_Model) (N := 127) hx hb htt iw_Model hown hK hP 0 rfl rfl 74 (by decide) (htt _ lk_Model_409) (fun _ h9 => h9) rfl d_Model_scan_1 ?_
  refine lv_istore_n (lv' := [(2, .int 0), (0, .ref h0), (1, .int 1)]) hx hb d_Model_scan_4 rfl hl (by decide) rfl (fun ls hl => ?_)
  refine lv_iconst (v := 0) hx hb d_Model_scan_5 (by decide) ?_
  refine lv_istore_n (lv' := [(3, .int 0), (2, .int 0), (0, .ref h0), (1, .int 1)]) hx hb d_Model_scan_6 rfl hl (by decide) rfl (fun ls hl => ?_)
  refine lv_iconst (v := 0) hx hb d_Model_scan_7 (by decide) ?_
  refine lv_istore (lv' := [(4, .int 0), (3, .int 0), (2, .int 0), (0, .ref h0), (1, .int 1)]) hx hb d_Model_scan_8 hl (by decide) rfl (fun ls hl => ?_)
  refine lv_aload_n hx hb d_Model_scan_10 rfl (lv_at hl 3 rfl) ?_
  refine lv_iconst (v := 0) hx hb d_Model_scan_11 (by decide) ?_
  refine va_put (D := (dC, dI)) (ci := 12) (v := .int 0) (ty := .int) (C := R_Model) (T := F_Model) (N := 127) hx hb htt iw_Model t_Model t_Model_ok n_Model hown hK hP hD hS 0 rfl rfl 75 (by decide) (htt _ lk_Model_416) (fun _ h9 => h9) rfl (by decide +kernel) rfl rfl (Nat.le_of_ble_eq_true rfl) d_Model_scan_12 (fun H locs hP hD hS => ?_)
  have hP : va_P (dC, dI) classes [(h0, .inr (12, mo v_r (upd (upd (upd (mi0 sd) 0 0) 86 0) 75 0) (fun _ => 0)))] H := hP
  have hD : va_D A [(h0, .inr (12, mo v_r (upd (upd (upd (mi0 sd) 0 0) 86 0) 75 0) (fun _ => 0)))] := hD
  refine lv_aload_n hx hb d_Model_scan_15 rfl (lv_at hl 3 rfl) ?_
  refine lv_iconst (v := -1) hx hb d_Model_scan_16 (by decide) ?_
  refine va_put (D := (dC, dI)) (ci := 12) (v := .int ((-1))) (ty := .int) (C := R_Model) (T := F_Model) (N := 127) hx hb htt iw_Model t_Model t_Model_ok n_Model hown hK hP hD hS 0 rfl rfl 76 (by decide) (htt _ lk_Model_264) (fun _ h9 => h9) rfl (by decide +kernel) rfl rfl (Nat.le_of_ble_eq_true rfl) d_Model_scan_17 (fun H locs hP hD hS => ?_)
  have hP : va_P (dC, dI) classes [(h0, .inr (12, mo v_r (upd (upd (upd (upd (mi0 sd) 0 0) 86 0) 75 0) 76 ((-1))) (fun _ => 0)))] H := hP
  have hD : va_D A [(h0, .inr (12, mo v_r (upd (upd (upd (upd (mi0 sd) 0 0) 86 0) 75 0) 76 ((-1))) (fun _ => 0)))] := hD
  refine lv_aload_n hx hb d_Model_scan_20 rfl (lv_at hl 3 rfl) ?_
  refine lv_iconst (v := 0) hx hb d_Model_scan_21 (by decide) ?_
  refine va_put (D := (dC, dI)) (ci := 12) (v := .int 0) (ty := .int) (C := R_Model) (T := F_Model) (N := 127) hx hb htt iw_Model t_Model t_Model_ok n_Model hown hK hP hD hS 0 rfl rfl 81 (by decide) (htt _ lk_Model_425) (fun _ h9 => h9) rfl (by decide +kernel) rfl rfl (Nat.le_of_ble_eq_true rfl) d_Model_scan_22 (fun H locs hP hD hS => ?_)
  have hP : va_P (dC, dI) classes [(h0, .inr (12, mo v_r (upd (upd (upd (upd (upd (mi0 sd) 0 0) 86 0) 75 0) 76 ((-1))) 81 0) (fun _ => 0)))] H := hP
  have hD : va_D A [(h0, .inr (12, mo v_r (upd (upd (upd (upd (upd (mi0 sd) 0 0) 86 0) 75 0) 76 ((-1))) 81 0) (fun _ => 0)))] := hD
  refine lv_aload_n hx hb d_Model_scan_25 rfl (lv_at hl 3 rfl) ?_
  refine lv_iconst (v := 0) hx hb d_Model_scan_26 (by decide) ?_
  refine va_put (D := (dC, dI)) (ci := 12) (v := .int 0) (ty := .int) (C := R_Model) (T := F_Model) (N := 127) hx hb htt iw_Model t_Model t_Model_ok n_Model hown hK hP hD hS 0 rfl rfl 84 (by decide) (htt _ lk_Model_428) (fun _ h9 => h9) rfl (by decide +kernel) rfl rfl (Nat.le_of_ble_eq_true rfl) d_Model_scan_27 (fun H locs hP hD hS => ?_)
  have hP : va_P (dC, dI) classes [(h0, .inr (12, mo v_r (upd (upd (upd (upd (upd (upd (mi0 sd) 0 0) 86 0) 75 0) 76 ((-1))) 81 0) 84 0) (fun _ => 0)))] H := hP
  have hD : va_D A [(h0, .inr (12, mo v_r (upd (upd (upd (upd (upd (upd (mi0 sd) 0 0) 86 0) 75 0) 76 ((-1))) 81 0) 84 0) (fun _ => 0)))] := hD
  refine lv_aload_n hx hb d_Model_scan_30 rfl (lv_at hl 3 rfl) ?_
  refine lv_iconst (v := 0) hx hb d_Model_scan_31 (by decide) ?_
  refine va_put (D := (dC, dI)) (ci := 12) (v := .int 0) (ty := .int) (C := R_Model) (T := F_Model) (N := 127) hx hb htt iw_Model t_Model t_Model_ok n_Model hown hK hP hD hS 0 rfl rfl 85 (by decide) (htt _ lk_Model_431) (fun _ h9 => h9) rfl (by decide +kernel) rfl rfl (Nat.le_of_ble_eq_true rfl) d_Model_scan_32 (fun H locs hP hD hS => ?_)
  have hP : va_P (dC, dI) classes [(h0, .inr (12, mo v_r (upd (upd (upd (upd (upd (upd (upd (mi0 sd) 0 0) 86 0) 75 0) 76 ((-1))) 81 0) 84 0) 85 0) (fun _ => 0)))] H := hP
  have hD : va_D A [(h0, .inr (12, mo v_r (upd (upd (upd (upd (upd (upd (upd (mi0 sd) 0 0) 86 0) 75 0) 76 ((-1))) 81 0) 84 0) 85 0) (fun _ => 0)))] := hD
  refine lv_iload hx hb d_Model_scan_35 (lv_at hl 0 rfl) ?_
  refine lv_iload_n hx hb d_Model_scan_37 rfl (lv_at hl 2 rfl) ?_
  refine lv_icmp_ge (tgt := 647) hx hb d_Model_scan_38 (by decide) (fun c_1 => ?_) (fun c_1 => ?_)
  · refine lv_aload_n hx hb d_Model_scan_647 rfl (lv_at hl 3 rfl) ?_
    refine va_get (D := (dC, dI)) (ci := 12) (v := .int 0) (C := R_Model) (T := F_Model) (N := 127) hx hb htt iw_Model hown hK hP 0 rfl rfl 75 (by decide) (htt _ lk_Model_416) (fun _ h9 => h9) rfl d_Model_scan_648 ?_
    refine lv_if_ne (tgt := 664) hx hb d_Model_scan_651 (by decide) (fun c_2 => ?_) (fun c_2 => ?_)
    · exact absurd c_2 (by decide)
    · refine lv_iload_n hx hb d_Model_scan_654 rfl (lv_at hl 1 rfl) ?_
      refine lv_if_le (tgt := 664) hx hb d_Model_scan_655 (by decide) (fun c_3 => ?_) (fun c_3 => ?_)
      · refine lv_iload_n hx hb d_Model_scan_664 rfl (lv_at hl 4 rfl) ?_
        refine lv_if_eq (tgt := 708) hx hb d_Model_scan_665 (by decide) (fun c_4 => ?_) (fun c_4 => ?_)
        · exact absurd c_4 (by decide)
        · refine lv_aload_n hx hb d_Model_scan_668 rfl (lv_at hl 3 rfl) ?_
          refine va_get (D := (dC, dI)) (ci := 12) (v := .int 0) (C := R_Model) (T := F_Model) (N := 127) hx hb htt iw_Model hown hK hP 0 rfl rfl 75 (by decide) (htt _ lk_Model_416) (fun _ h9 => h9) rfl d_Model_scan_669 ?_
          refine lv_if_ne (tgt := 708) hx hb d_Model_scan_672 (by decide) (fun c_5 => ?_) (fun c_5 => ?_)
          · exact absurd c_5 (by decide)
          · refine lv_aload_n hx hb d_Model_scan_675 rfl (lv_at hl 3 rfl) ?_
            refine va_get (D := (dC, dI)) (ci := 12) (v := .int 0) (C := R_Model) (T := F_Model) (N := 127) hx hb htt iw_Model hown hK hP 0 rfl rfl 84 (by decide) (htt _ lk_Model_428) (fun _ h9 => h9) rfl d_Model_scan_676 ?_
            refine lv_iconst (v := 1) hx hb d_Model_scan_679 (by decide) ?_
            refine lv_icmp_ne (tgt := 693) hx hb d_Model_scan_680 (by decide) (fun c_6 => ?_) (fun c_6 => ?_)
            · refine lv_aload_n hx hb d_Model_scan_693 rfl (lv_at hl 3 rfl) ?_
              refine va_get (D := (dC, dI)) (ci := 12) (v := .int 0) (C := R_Model) (T := F_Model) (N := 127) hx hb htt iw_Model hown hK hP 0 rfl rfl 84 (by decide) (htt _ lk_Model_428) (fun _ h9 => h9) rfl d_Model_scan_694 ?_
              refine lv_iconst (v := 1) hx hb d_Model_scan_697 (by decide) ?_
              refine lv_icmp_le (tgt := 708) hx hb d_Model_scan_698 (by decide) (fun c_7 => ?_) (fun c_7 => ?_)
              · refine lv_aload_n hx hb d_Model_scan_708 rfl (lv_at hl 3 rfl) ?_
                refine va_get (D := (dC, dI)) (ci := 12) (v := .int 0) (C := R_Model) (T := F_Model) (N := 127) hx hb htt iw_Model hown hK hP 0 rfl rfl 75 (by decide) (htt _ lk_Model_416) (fun _ h9 => h9) rfl d_Model_scan_709 ?_
                refine lv_if_ne (tgt := 719) hx hb d_Model_scan_712 (by decide) (fun c_8 => ?_) (fun c_8 => ?_)
                · exact absurd c_8 (by decide)
                · refine lv_iconst (v := 1) hx hb d_Model_scan_715 (by decide) ?_
                  refine lv_goto (tgt := 720) hx hb d_Model_scan_716 (by decide) ?_
                  have hP9 := hP.sub (ws' := [(h0, .inr (12, mo v_r (upd (upd (upd (upd (upd (upd (upd (mi0 sd) 0 0) 86 0) 75 0) 76 ((-1))) 81 0) 84 0) 85 0) (fun _ => 0)))]) [0] rfl
                  have hD9 := hD.sub (ws' := [(h0, .inr (12, mo v_r (upd (upd (upd (upd (upd (upd (upd (mi0 sd) 0 0) 86 0) 75 0) 76 ((-1))) 81 0) 84 0) 85 0) (fun _ => 0)))]) [0] (by decide) rfl
                  exact W.zret (v := 1) hx hb hr (by decide) (fun t9 ht hW => ⟨⟨1, (), rfl, rfl, by rw [ht]; exact hP9, va_K.moved hW.alike hK, hD9⟩, hS.F ht⟩) hS.2.2 d_Model_scan_720
              · exact absurd c_7 (by decide)
            · exact absurd c_6 (by decide)
      · exact absurd c_3 (by decide)
  · exact absurd c_1 (by decide)

set_option maxHeartbeats 4000000 in
set_option maxRecDepth 100000 in
theorem c_Model_define_c1 (l : Launch) (dC : Nat → ClassId) (dI : Nat → Nat → Nat) (sz : Nat) (h0 : Nat) (v_r : Nat → Nat) (cI : ClassId) (cJ : ClassId) (cB : ClassId) (sd : Int32)  : Met l y_Model_define w_Model_define ({ frames := 1, cells := 0, slots := 0, locals := 29 }) (va_Pc [.ref h0] (fun U => U.heap.size = sz ∧ va_P (dC, dI) classes [(h0, .inr (12, mo v_r (mi0 sd) (fun _ => 0)))] U.heap ∧ va_K (dC, dI) classes [(cI, .int), (cJ, .long), (cB, .byte)] U ∧ va_D (fun _ => True) [(h0, .inr (12, mo v_r (mi0 sd) (fun _ => 0)))])) (va_Qi (fun (r : Int32) (_ : Unit) => r = 0) (fun (_ : Unit) t => va_P (dC, dI) classes [(h0, .inr (12, mo v_r (upd (upd (upd (upd (upd (upd (upd (upd (upd (upd (upd (upd (mi0 sd) 0 0) 86 0) 75 0) 76 ((-1))) 81 0) 84 0) 85 0) 74 0) 18 0) 19 0) 20 0) 21 0) (fun _ => 0)))] t.heap ∧ va_K (dC, dI) classes [(cI, .int), (cJ, .long), (cB, .byte)] t ∧ va_D (va_A [(h0, .inr (12, mo v_r (mi0 sd) (fun _ => 0)))] sz) [(h0, .inr (12, mo v_r (upd (upd (upd (upd (upd (upd (upd (upd (upd (upd (upd (upd (mi0 sd) 0 0) 86 0) 75 0) 76 ((-1))) 81 0) 84 0) 85 0) 74 0) 18 0) 19 0) 20 0) 21 0) (fun _ => 0)))]) (va_A [(h0, .inr (12, mo v_r (mi0 sd) (fun _ => 0)))] sz)) 0 0 (va_A [(h0, .inr (12, mo v_r (mi0 sd) (fun _ => 0)))] sz) := by
  refine Met.ofW (cc := b_Model_define) (maxL := 9) (ret := (some .int)) (by decide) rfl ?_
  intro p e s m args below meth c s₁ B hml hv
  obtain ⟨rfl, hsz, hP, hK, hD0⟩ := hv
  have hx := B.exec
  have hb := B.bytes
  have hr := B.returns
  have hts := atoms_spec (ws := w_Model_define) B.pre
  have htt : ∀ w ∈ tw_T, w.before _ s = true := fun w h => hts w (List.mem_cons_of_mem _ h)
  have hown : s.vm.findClass R_Model = some m.cls := findClass_of_methodNamed B.named
  have hlocks := B.notSynchronized
  subst hsz
  have hD := hD0.self (sz := s.heap.size)
  generalize hAe : va_A [(h0, .inr (12, mo v_r (mi0 sd) (fun _ => 0)))] s.heap.size = A at hD ⊢
  have hA : ∀ q : Nat, s.heap.size ≤ q → A q := fun q h => by rw [← hAe]; exact Or.inr h
  have hS : va_S A s.heap s.heap [] := va_S.rf
  have hP : va_P (dC, dI) classes [(h0, .inr (12, mo v_r (mi0 sd) (fun _ => 0)))] s.heap := hP
  have hl := lv_entry ([.ref h0]) (n := 9) (Nat.le_of_ble_eq_true rfl)
  rw [lg_entry_eq]
  generalize (lg_sl ([.ref h0]) ++ List.replicate (9 - (lg_sl ([.ref h0])).length) Slot.unset).toArray = ls at hl ⊢
  have hl : lv_has ls 9 [(0, .ref h0)] := hl
  refine lv_aload_n hx hb d_Model_define_0 rfl (lv_at hl 0 rfl) ?_
  refine lv_iconst (v := 0) hx hb d_Model_define_1 (by decide) ?_
  refine va_put (D := (dC, dI)) (ci := 12) (v := .int 0) (ty := .int) (C := R_Model) (T := F_Model) (N := 127) hx hb htt iw_Model t_Model t_Model_ok n_Model hown hK hP hD hS 0 rfl rfl 0 (by decide) (htt _ lk_Model_1) (fun _ h9 => h9) rfl (by decide +kernel) rfl rfl (Nat.le_of_ble_eq_true rfl) d_Model_define_2 (fun H locs hP hD hS => ?_)
  have hP : va_P (dC, dI) classes [(h0, .inr (12, mo v_r (upd (mi0 sd) 0 0) (fun _ => 0)))] H := hP
  have hD : va_D A [(h0, .inr (12, mo v_r (upd (mi0 sd) 0 0) (fun _ => 0)))] := hD
  refine lv_aload_n hx hb d_Model_define_5 rfl (lv_at hl 0 rfl) ?_
  refine va_get (D := (dC, dI)) (ci := 12) (v := .int 0) (C := R_Model) (T := F_Model) (N := 127) hx hb htt iw_Model hown hK hP 0 rfl rfl 92 (by decide) (htt _ lk_Model_494) (fun _ h9 => h9) rfl d_Model_define_6 ?_
  refine lv_iconst (v := 1) hx hb d_Model_define_9 (by decide) ?_
  refine lv_icmp_ne (tgt := 16) hx hb d_Model_define_10 (by decide) (fun c_1 => ?_) (fun c_1 => ?_)
  · refine lv_aload_n hx hb d_Model_define_16 rfl (lv_at hl 0 rfl) ?_
    refine va_get (D := (dC, dI)) (ci := 12) (v := .int 0) (C := R_Model) (T := F_Model) (N := 127) hx hb htt iw_Model hown hK hP 0 rfl rfl 18 (by decide) (htt _ lk_Model_372) (fun _ h9 => h9) rfl d_Model_define_17 ?_
    refine lv_istore_n (lv' := [(1, .int 0), (0, .ref h0)]) hx hb d_Model_define_20 rfl hl (by decide) rfl (fun ls hl => ?_)
    refine lv_aload_n hx hb d_Model_define_21 rfl (lv_at hl 1 rfl) ?_
    refine va_get (D := (dC, dI)) (ci := 12) (v := .int 0) (C := R_Model) (T := F_Model) (N := 127) hx hb htt iw_Model hown hK hP 0 rfl rfl 19 (by decide) (htt _ lk_Model_19) (fun _ h9 => h9) rfl d_Model_define_22 ?_
    refine lv_istore_n (lv' := [(2, .int 0), (1, .int 0), (0, .ref h0)]) hx hb d_Model_define_25 rfl hl (by decide) rfl (fun ls hl => ?_)
    refine lv_aload_n hx hb d_Model_define_26 rfl (lv_at hl 2 rfl) ?_
    refine va_get (D := (dC, dI)) (ci := 12) (v := .int 0) (C := R_Model) (T := F_Model) (N := 127) hx hb htt iw_Model hown hK hP 0 rfl rfl 20 (by decide) (htt _ lk_Model_32) (fun _ h9 => h9) rfl d_Model_define_27 ?_
    refine lv_istore_n (lv' := [(3, .int 0), (2, .int 0), (1, .int 0), (0, .ref h0)]) hx hb d_Model_define_30 rfl hl (by decide) rfl (fun ls hl => ?_)
    refine lv_aload_n hx hb d_Model_define_31 rfl (lv_at hl 3 rfl) ?_
    refine va_get (D := (dC, dI)) (ci := 12) (v := .int 0) (C := R_Model) (T := F_Model) (N := 127) hx hb htt iw_Model hown hK hP 0 rfl rfl 21 (by decide) (htt _ lk_Model_44) (fun _ h9 => h9) rfl d_Model_define_32 ?_
    refine lv_istore (lv' := [(4, .int 0), (3, .int 0), (2, .int 0), (1, .int 0), (0, .ref h0)]) hx hb d_Model_define_35 hl (by decide) rfl (fun ls hl => ?_)
    refine lv_aload_n hx hb d_Model_define_37 rfl (lv_at hl 4 rfl) ?_
    refine lv_iconst (v := 0) hx hb d_Model_define_38 (by decide) ?_
    refine va_put (D := (dC, dI)) (ci := 12) (v := .int 0) (ty := .int) (C := R_Model) (T := F_Model) (N := 127) hx hb htt iw_Model t_Model t_Model_ok n_Model hown hK hP hD hS 0 rfl rfl 86 (by decide) (htt _ lk_Model_482) (fun _ h9 => h9) rfl (by decide +kernel) rfl rfl (Nat.le_of_ble_eq_true rfl) d_Model_define_39 (fun H locs hP hD hS => ?_)
    have hP : va_P (dC, dI) classes [(h0, .inr (12, mo v_r (upd (upd (mi0 sd) 0 0) 86 0) (fun _ => 0)))] H := hP
    have hD : va_D A [(h0, .inr (12, mo v_r (upd (upd (mi0 sd) 0 0) 86 0) (fun _ => 0)))] := hD
    refine lv_aload_n hx hb d_Model_define_42 rfl (lv_at hl 4 rfl) ?_
    refine lv_iconst (v := 1) hx hb d_Model_define_43 (by decide) ?_
    have hPc := hP.sub (ws' := [(h0, .inr (12, mo v_r (upd (upd (mi0 sd) 0 0) 86 0) (fun _ => 0)))]) [0] rfl
    have hDc := hD.sub (ws' := [(h0, .inr (12, mo v_r (upd (upd (mi0 sd) 0 0) 86 0) (fun _ => 0)))]) [0] (by decide) rfl
    have hKc := hK.sub (tys' := [(cI, .int), (cJ, .long), (cB, .byte)]) [0, 1, 2] rfl
    have hFc := va_free (wc := [(h0, .inr (12, mo v_r (upd (upd (mi0 sd) 0 0) 86 0) (fun _ => 0)))]) hD hS hA [0] rfl
    refine va_calli (va_runV (As := [.int 1]) (rest := []) ⟨hx, hb, hml, hown, hts⟩ (c_Model_scan_c1 l dC dI H.size h0 v_r cI cJ cB sd) (cwV 1 hts (tw_GV tw_cons cw_Model_scan lk_Model_497 in_Model_scan sel_Model_scan ini_Model) rfl rfl rfl (by decide +kernel) ⟨Nat.le_of_ble_eq_true rfl, Nat.le_of_ble_eq_true rfl⟩) ⟨fun a U g mk q => by obtain ⟨q0, q1, qP, qK, qD⟩ := q; exact ⟨q0, q1, qP, va_K.moved (u := U) (U := U.calling g mk a) (Vm.Alike.refl U.vm) qK, qD⟩, va_recv hKc hPc (ci := 12) (q0 := 0) rfl rfl, fun U hU hW => ⟨rfl, by rw [hU], by rw [hU]; exact hPc, va_K.moved hW.alike hKc, hDc.weaken (fun _ _ _ _ => trivial)⟩⟩ rfl rfl hl.1 rfl (lv_room (Nat.le_of_ble_eq_true rfl)) d_Model_define_44 ⟨Nat.le_of_ble_eq_true rfl, Nat.le_of_ble_eq_true rfl⟩) hS (fun q _ h => hFc q h) hFc (fun r9 u9 t9 H1 locs ht hvm e9 hB hz1 hk1 hS => ?_)
    obtain ⟨hP1, hK1, hD1⟩ := hB
    rw [ht] at hP1
    obtain ⟨hP, hD⟩ := va_join (wr := []) (w1 := [(h0, .inr (12, mo v_r (upd (upd (upd (upd (upd (upd (upd (mi0 sd) 0 0) 86 0) 75 0) 76 ((-1))) 81 0) 84 0) 85 0) (fun _ => 0)))]) hP hD [0] [] rfl rfl (by decide) (by decide) hk1 hFc hP1 hD1
    subst e9
    clear hP1 hD1 hK1 hvm hz1 hk1 hFc hKc hDc hPc
    subst ht
    generalize t9.heap = H at hP hS ⊢
    have hP : va_P (dC, dI) classes [(h0, .inr (12, mo v_r (upd (upd (upd (upd (upd (upd (upd (mi0 sd) 0 0) 86 0) 75 0) 76 ((-1))) 81 0) 84 0) 85 0) (fun _ => 0)))] H := hP
    have hD : va_D A [(h0, .inr (12, mo v_r (upd (upd (upd (upd (upd (upd (upd (mi0 sd) 0 0) 86 0) 75 0) 76 ((-1))) 81 0) 84 0) 85 0) (fun _ => 0)))] := hD
    refine lv_istore (lv' := [(5, .int 1), (4, .int 0), (3, .int 0), (2, .int 0), (1, .int 0), (0, .ref h0)]) hx hb d_Model_define_47 hl (by decide) rfl (fun ls hl => ?_)
    refine lv_aload_n hx hb d_Model_define_49 rfl (lv_at hl 5 rfl) ?_
    refine lv_iconst (v := 0) hx hb d_Model_define_50 (by decide) ?_
    refine va_put (D := (dC, dI)) (ci := 12) (v := .int 0) (ty := .int) (C := R_Model) (T := F_Model) (N := 127) hx hb htt iw_Model t_Model t_Model_ok n_Model hown hK hP hD hS 0 rfl rfl 74 (by decide) (htt _ lk_Model_409) (fun _ h9 => h9) rfl (by decide +kernel) rfl rfl (Nat.le_of_ble_eq_true rfl) d_Model_define_51 (fun H locs hP hD hS => ?_)
    have hP : va_P (dC, dI) classes [(h0, .inr (12, mo v_r (upd (upd (upd (upd (upd (upd (upd (upd (mi0 sd) 0 0) 86 0) 75 0) 76 ((-1))) 81 0) 84 0) 85 0) 74 0) (fun _ => 0)))] H := hP
    have hD : va_D A [(h0, .inr (12, mo v_r (upd (upd (upd (upd (upd (upd (upd (upd (mi0 sd) 0 0) 86 0) 75 0) 76 ((-1))) 81 0) 84 0) 85 0) 74 0) (fun _ => 0)))] := hD
    refine lv_iload hx hb d_Model_define_54 (lv_at hl 0 rfl) ?_
    refine lv_if_eq (tgt := 66) hx hb d_Model_define_56 (by decide) (fun c_2 => ?_) (fun c_2 => ?_)
    · exact absurd c_2 (by decide)
    · refine lv_aload_n hx hb d_Model_define_59 rfl (lv_at hl 5 rfl) ?_
      refine va_get (D := (dC, dI)) (ci := 12) (v := .int 0) (C := R_Model) (T := F_Model) (N := 127) hx hb htt iw_Model hown hK hP 0 rfl rfl 86 (by decide) (htt _ lk_Model_482) (fun _ h9 => h9) rfl d_Model_define_60 ?_
      refine lv_if_ne (tgt := 93) hx hb d_Model_define_63 (by decide) (fun c_3 => ?_) (fun c_3 => ?_)
      · exact absurd c_3 (by decide)
      · refine lv_aload_n hx hb d_Model_define_66 rfl (lv_at hl 5 rfl) ?_
        refine lv_iload_n hx hb d_Model_define_67 rfl (lv_at hl 4 rfl) ?_
        refine va_put (D := (dC, dI)) (ci := 12) (v := .int 0) (ty := .int) (C := R_Model) (T := F_Model) (N := 127) hx hb htt iw_Model t_Model t_Model_ok n_Model hown hK hP hD hS 0 rfl rfl 18 (by decide) (htt _ lk_Model_372) (fun _ h9 => h9) rfl (by decide +kernel) rfl rfl (Nat.le_of_ble_eq_true rfl) d_Model_define_68 (fun H locs hP hD hS => ?_)
        have hP : va_P (dC, dI) classes [(h0, .inr (12, mo v_r (upd (upd (upd (upd (upd (upd (upd (upd (upd (mi0 sd) 0 0) 86 0) 75 0) 76 ((-1))) 81 0) 84 0) 85 0) 74 0) 18 0) (fun _ => 0)))] H := hP
        have hD : va_D A [(h0, .inr (12, mo v_r (upd (upd (upd (upd (upd (upd (upd (upd (upd (mi0 sd) 0 0) 86 0) 75 0) 76 ((-1))) 81 0) 84 0) 85 0) 74 0) 18 0) (fun _ => 0)))] := hD
        refine lv_aload_n hx hb d_Model_define_71 rfl (lv_at hl 5 rfl) ?_
        refine lv_iload_n hx hb d_Model_define_72 rfl (lv_at hl 3 rfl) ?_
        refine va_put (D := (dC, dI)) (ci := 12) (v := .int 0) (ty := .int) (C := R_Model) (T := F_Model) (N := 127) hx hb htt iw_Model t_Model t_Model_ok n_Model hown hK hP hD hS 0 rfl rfl 19 (by decide) (htt _ lk_Model_19) (fun _ h9 => h9) rfl (by decide +kernel) rfl rfl (Nat.le_of_ble_eq_true rfl) d_Model_define_73 (fun H locs hP hD hS => ?_)
        have hP : va_P (dC, dI) classes [(h0, .inr (12, mo v_r (upd (upd (upd (upd (upd (upd (upd (upd (upd (upd (mi0 sd) 0 0) 86 0) 75 0) 76 ((-1))) 81 0) 84 0) 85 0) 74 0) 18 0) 19 0) (fun _ => 0)))] H := hP
        have hD : va_D A [(h0, .inr (12, mo v_r (upd (upd (upd (upd (upd (upd (upd (upd (upd (upd (mi0 sd) 0 0) 86 0) 75 0) 76 ((-1))) 81 0) 84 0) 85 0) 74 0) 18 0) 19 0) (fun _ => 0)))] := hD
        refine lv_aload_n hx hb d_Model_define_76 rfl (lv_at hl 5 rfl) ?_
        refine lv_iload_n hx hb d_Model_define_77 rfl (lv_at hl 2 rfl) ?_
        refine va_put (D := (dC, dI)) (ci := 12) (v := .int 0) (ty := .int) (C := R_Model) (T := F_Model) (N := 127) hx hb htt iw_Model t_Model t_Model_ok n_Model hown hK hP hD hS 0 rfl rfl 20 (by decide) (htt _ lk_Model_32) (fun _ h9 => h9) rfl (by decide +kernel) rfl rfl (Nat.le_of_ble_eq_true rfl) d_Model_define_78 (fun H locs hP hD hS => ?_)
        have hP : va_P (dC, dI) classes [(h0, .inr (12, mo v_r (upd (upd (upd (upd (upd (upd (upd (upd (upd (upd (upd (mi0 sd) 0 0) 86 0) 75 0) 76 ((-1))) 81 0) 84 0) 85 0) 74 0) 18 0) 19 0) 20 0) (fun _ => 0)))] H := hP
        have hD : va_D A [(h0, .inr (12, mo v_r (upd (upd (upd (upd (upd (upd (upd (upd (upd (upd (upd (mi0 sd) 0 0) 86 0) 75 0) 76 ((-1))) 81 0) 84 0) 85 0) 74 0) 18 0) 19 0) 20 0) (fun _ => 0)))] := hD
        refine lv_aload_n hx hb d_Model_define_81 rfl (lv_at hl 5 rfl) ?_
        refine lv_iload hx hb d_Model_define_82 (lv_at hl 1 rfl) ?_
        refine va_put (D := (dC, dI)) (ci := 12) (v := .int 0) (ty := .int) (C := R_Model) (T := F_Model) (N := 127) hx hb htt iw_Model t_Model t_Model_ok n_Model hown hK hP hD hS 0 rfl rfl 21 (by decide) (htt _ lk_Model_44) (fun _ h9 => h9) rfl (by decide +kernel) rfl rfl (Nat.le_of_ble_eq_true rfl) d_Model_define_84 (fun H locs hP hD hS => ?_)
        have hP : va_P (dC, dI) classes [(h0, .inr (12, mo v_r (upd (upd (upd (upd (upd (upd (upd (upd (upd (upd (upd (upd (mi0 sd) 0 0) 86 0) 75 0) 76 ((-1))) 81 0) 84 0) 85 0) 74 0) 18 0) 19 0) 20 0) 21 0) (fun _ => 0)))] H := hP
        have hD : va_D A [(h0, .inr (12, mo v_r (upd (upd (upd (upd (upd (upd (upd (upd (upd (upd (upd (upd (mi0 sd) 0 0) 86 0) 75 0) 76 ((-1))) 81 0) 84 0) 85 0) 74 0) 18 0) 19 0) 20 0) 21 0) (fun _ => 0)))] := hD
        refine lv_aload_n hx hb d_Model_define_87 rfl (lv_at hl 5 rfl) ?_
        refine va_get (D := (dC, dI)) (ci := 12) (v := .int 0) (C := R_Model) (T := F_Model) (N := 127) hx hb htt iw_Model hown hK hP 0 rfl rfl 75 (by decide) (htt _ lk_Model_416) (fun _ h9 => h9) rfl d_Model_define_88 ?_
        refine lv_ineg hx hb d_Model_define_91 ?_
        refine lv_topi (fun x_4 ex_4 => ?_)
        obtain rfl : x_4 = 0 := by rw [ex_4]; decide
        clear ex_4
        have hP9 := hP.sub (ws' := [(h0, .inr (12, mo v_r (upd (upd (upd (upd (upd (upd (upd (upd (upd (upd (upd (upd (mi0 sd) 0 0) 86 0) 75 0) 76 ((-1))) 81 0) 84 0) 85 0) 74 0) 18 0) 19 0) 20 0) 21 0) (fun _ => 0)))]) [0] rfl
        have hD9 := hD.sub (ws' := [(h0, .inr (12, mo v_r (upd (upd (upd (upd (upd (upd (upd (upd (upd (upd (upd (upd (mi0 sd) 0 0) 86 0) 75 0) 76 ((-1))) 81 0) 84 0) 85 0) 74 0) 18 0) 19 0) 20 0) 21 0) (fun _ => 0)))]) [0] (by decide) rfl
        exact W.iret (v := 0) hx hb hr (fun t9 ht hW => ⟨⟨0, (), rfl, rfl, by rw [ht]; exact hP9, va_K.moved hW.alike hK, hD9⟩, hS.F ht⟩) hS.2.2 d_Model_define_92
  · exact absurd c_1 (by decide)
