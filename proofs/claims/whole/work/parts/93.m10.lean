theorem d_Model_eval_0 : decode b_Model_eval 0 = .ok (.aload_n 0, 1) := by decide +kernel
theorem d_Model_eval_1 : decode b_Model_eval 1 = .ok (.getfield 590, 3) := by decide +kernel
theorem d_Model_eval_4 : decode b_Model_eval 4 = .ok (.aload_n 0, 1) := by decide +kernel
theorem d_Model_eval_5 : decode b_Model_eval 5 = .ok (.getfield 47, 3) := by decide +kernel
theorem d_Model_eval_8 : decode b_Model_eval 8 = .ok (.aload_n 0, 1) := by decide +kernel
theorem d_Model_eval_9 : decode b_Model_eval 9 = .ok (.getfield 587, 3) := by decide +kernel
theorem d_Model_eval_12 : decode b_Model_eval 12 = .ok (.iaload, 1) := by decide +kernel
theorem d_Model_eval_13 : decode b_Model_eval 13 = .ok (.if_icmp .lt 9, 3) := by decide +kernel
theorem d_Model_eval_16 : decode b_Model_eval 16 = .ok (.aload_n 0, 1) := by decide +kernel
theorem d_Model_eval_17 : decode b_Model_eval 17 = .ok (.iconst 4, 1) := by decide +kernel
theorem d_Model_eval_18 : decode b_Model_eval 18 = .ok (.invokevirtual 596, 3) := by decide +kernel
theorem d_Model_eval_21 : decode b_Model_eval 21 = .ok (.lreturn, 1) := by decide +kernel
theorem d_Model_eval_22 : decode b_Model_eval 22 = .ok (.aload_n 0, 1) := by decide +kernel
theorem d_Model_eval_23 : decode b_Model_eval 23 = .ok (.getfield 35, 3) := by decide +kernel
theorem d_Model_eval_26 : decode b_Model_eval 26 = .ok (.aload_n 0, 1) := by decide +kernel
theorem d_Model_eval_27 : decode b_Model_eval 27 = .ok (.getfield 41, 3) := by decide +kernel
theorem d_Model_eval_30 : decode b_Model_eval 30 = .ok (.aload_n 0, 1) := by decide +kernel
theorem d_Model_eval_31 : decode b_Model_eval 31 = .ok (.getfield 587, 3) := by decide +kernel
theorem d_Model_eval_34 : decode b_Model_eval 34 = .ok (.iaload, 1) := by decide +kernel
theorem d_Model_eval_35 : decode b_Model_eval 35 = .ok (.aload_n 0, 1) := by decide +kernel
theorem d_Model_eval_36 : decode b_Model_eval 36 = .ok (.getfield 590, 3) := by decide +kernel
theorem d_Model_eval_39 : decode b_Model_eval 39 = .ok (.iadd, 1) := by decide +kernel
theorem d_Model_eval_40 : decode b_Model_eval 40 = .ok (.laload, 1) := by decide +kernel
theorem d_Model_eval_41 : decode b_Model_eval 41 = .ok (.lstore_n 2, 1) := by decide +kernel
theorem d_Model_eval_42 : decode b_Model_eval 42 = .ok (.aload_n 0, 1) := by decide +kernel
theorem d_Model_eval_43 : decode b_Model_eval 43 = .ok (.dup, 1) := by decide +kernel
theorem d_Model_eval_44 : decode b_Model_eval 44 = .ok (.getfield 590, 3) := by decide +kernel
theorem d_Model_eval_47 : decode b_Model_eval 47 = .ok (.iconst 1, 1) := by decide +kernel
theorem d_Model_eval_48 : decode b_Model_eval 48 = .ok (.iadd, 1) := by decide +kernel
theorem d_Model_eval_49 : decode b_Model_eval 49 = .ok (.putfield 590, 3) := by decide +kernel
theorem d_Model_eval_52 : decode b_Model_eval 52 = .ok (.lload_n 2, 1) := by decide +kernel
theorem d_Model_eval_53 : decode b_Model_eval 53 = .ok (.lstore 4, 2) := by decide +kernel
theorem d_Model_eval_55 : decode b_Model_eval 55 = .ok (.lload_n 2, 1) := by decide +kernel
theorem d_Model_eval_56 : decode b_Model_eval 56 = .ok (.invokestatic 61, 3) := by decide +kernel
theorem d_Model_eval_59 : decode b_Model_eval 59 = .ok (.ifCond .eq 521, 3) := by decide +kernel
theorem d_Model_eval_62 : decode b_Model_eval 62 = .ok (.lload_n 2, 1) := by decide +kernel
theorem d_Model_eval_63 : decode b_Model_eval 63 = .ok (.invokestatic 64, 3) := by decide +kernel
theorem d_Model_eval_66 : decode b_Model_eval 66 = .ok (.istore 6, 2) := by decide +kernel
theorem d_Model_eval_68 : decode b_Model_eval 68 = .ok (.aload_n 0, 1) := by decide +kernel
theorem d_Model_eval_69 : decode b_Model_eval 69 = .ok (.getfield 67, 3) := by decide +kernel
theorem d_Model_eval_72 : decode b_Model_eval 72 = .ok (.aload_n 0, 1) := by decide +kernel
theorem d_Model_eval_73 : decode b_Model_eval 73 = .ok (.getfield 15, 3) := by decide +kernel
theorem d_Model_eval_76 : decode b_Model_eval 76 = .ok (.iload 6, 2) := by decide +kernel
theorem d_Model_eval_78 : decode b_Model_eval 78 = .ok (.iaload, 1) := by decide +kernel
theorem d_Model_eval_79 : decode b_Model_eval 79 = .ok (.baload, 1) := by decide +kernel
theorem d_Model_eval_80 : decode b_Model_eval 80 = .ok (.istore 7, 2) := by decide +kernel
theorem d_Model_eval_82 : decode b_Model_eval 82 = .ok (.aload_n 0, 1) := by decide +kernel
theorem d_Model_eval_83 : decode b_Model_eval 83 = .ok (.getfield 22, 3) := by decide +kernel
theorem d_Model_eval_86 : decode b_Model_eval 86 = .ok (.iload 6, 2) := by decide +kernel
theorem d_Model_eval_88 : decode b_Model_eval 88 = .ok (.iaload, 1) := by decide +kernel
theorem d_Model_eval_89 : decode b_Model_eval 89 = .ok (.iconst 1, 1) := by decide +kernel
theorem d_Model_eval_90 : decode b_Model_eval 90 = .ok (.if_icmp .ne 7, 3) := by decide +kernel
theorem d_Model_eval_93 : decode b_Model_eval 93 = .ok (.iconst 1, 1) := by decide +kernel
theorem d_Model_eval_94 : decode b_Model_eval 94 = .ok (.goto 4, 3) := by decide +kernel
theorem d_Model_eval_97 : decode b_Model_eval 97 = .ok (.iconst 0, 1) := by decide +kernel
theorem d_Model_eval_98 : decode b_Model_eval 98 = .ok (.istore 8, 2) := by decide +kernel
theorem d_Model_eval_100 : decode b_Model_eval 100 = .ok (.iload 7, 2) := by decide +kernel
theorem d_Model_eval_102 : decode b_Model_eval 102 = .ok (.bipush 34, 2) := by decide +kernel
theorem d_Model_eval_104 : decode b_Model_eval 104 = .ok (.if_icmp .ne 14, 3) := by decide +kernel
theorem d_Model_eval_107 : decode b_Model_eval 107 = .ok (.aload_n 0, 1) := by decide +kernel
theorem d_Model_eval_108 : decode b_Model_eval 108 = .ok (.iload 6, 2) := by decide +kernel
theorem d_Model_eval_110 : decode b_Model_eval 110 = .ok (.invokevirtual 602, 3) := by decide +kernel
theorem d_Model_eval_113 : decode b_Model_eval 113 = .ok (.lstore 4, 2) := by decide +kernel
theorem d_Model_eval_115 : decode b_Model_eval 115 = .ok (.goto 454, 3) := by decide +kernel
theorem d_Model_eval_118 : decode b_Model_eval 118 = .ok (.iload 7, 2) := by decide +kernel
theorem d_Model_eval_120 : decode b_Model_eval 120 = .ok (.bipush 58, 2) := by decide +kernel
theorem d_Model_eval_122 : decode b_Model_eval 122 = .ok (.if_icmp .ne 30, 3) := by decide +kernel
theorem d_Model_eval_125 : decode b_Model_eval 125 = .ok (.aload_n 0, 1) := by decide +kernel
theorem d_Model_eval_126 : decode b_Model_eval 126 = .ok (.aload_n 0, 1) := by decide +kernel
theorem d_Model_eval_127 : decode b_Model_eval 127 = .ok (.getfield 15, 3) := by decide +kernel
theorem d_Model_eval_130 : decode b_Model_eval 130 = .ok (.iload 6, 2) := by decide +kernel
theorem d_Model_eval_132 : decode b_Model_eval 132 = .ok (.iaload, 1) := by decide +kernel
theorem d_Model_eval_133 : decode b_Model_eval 133 = .ok (.iconst 1, 1) := by decide +kernel
theorem d_Model_eval_134 : decode b_Model_eval 134 = .ok (.iadd, 1) := by decide +kernel
theorem d_Model_eval_135 : decode b_Model_eval 135 = .ok (.aload_n 0, 1) := by decide +kernel
theorem d_Model_eval_136 : decode b_Model_eval 136 = .ok (.getfield 22, 3) := by decide +kernel
theorem d_Model_eval_139 : decode b_Model_eval 139 = .ok (.iload 6, 2) := by decide +kernel
theorem d_Model_eval_141 : decode b_Model_eval 141 = .ok (.iaload, 1) := by decide +kernel
theorem d_Model_eval_142 : decode b_Model_eval 142 = .ok (.iconst 1, 1) := by decide +kernel
theorem d_Model_eval_143 : decode b_Model_eval 143 = .ok (.isub, 1) := by decide +kernel
theorem d_Model_eval_144 : decode b_Model_eval 144 = .ok (.invokevirtual 605, 3) := by decide +kernel
theorem d_Model_eval_147 : decode b_Model_eval 147 = .ok (.lstore 4, 2) := by decide +kernel
theorem d_Model_eval_149 : decode b_Model_eval 149 = .ok (.goto 420, 3) := by decide +kernel
theorem d_Model_eval_152 : decode b_Model_eval 152 = .ok (.iload 8, 2) := by decide +kernel
theorem d_Model_eval_154 : decode b_Model_eval 154 = .ok (.ifCond .eq 84, 3) := by decide +kernel
theorem d_Model_eval_157 : decode b_Model_eval 157 = .ok (.iload 7, 2) := by decide +kernel
theorem d_Model_eval_159 : decode b_Model_eval 159 = .ok (.bipush 40, 2) := by decide +kernel
theorem d_Model_eval_161 : decode b_Model_eval 161 = .ok (.if_icmp .eq 10, 3) := by decide +kernel
theorem d_Model_eval_164 : decode b_Model_eval 164 = .ok (.iload 7, 2) := by decide +kernel
theorem d_Model_eval_166 : decode b_Model_eval 166 = .ok (.bipush 45, 2) := by decide +kernel
theorem d_Model_eval_168 : decode b_Model_eval 168 = .ok (.if_icmp .ne 70, 3) := by decide +kernel
theorem d_Model_eval_171 : decode b_Model_eval 171 = .ok (.aload_n 0, 1) := by decide +kernel
theorem d_Model_eval_172 : decode b_Model_eval 172 = .ok (.invokevirtual 608, 3) := by decide +kernel
theorem d_Model_eval_175 : decode b_Model_eval 175 = .ok (.ifCond .ne 7, 3) := by decide +kernel
theorem d_Model_eval_178 : decode b_Model_eval 178 = .ok (.ldc2_w 7, 3) := by decide +kernel
theorem d_Model_eval_181 : decode b_Model_eval 181 = .ok (.lreturn, 1) := by decide +kernel
theorem d_Model_eval_182 : decode b_Model_eval 182 = .ok (.aload_n 0, 1) := by decide +kernel
theorem d_Model_eval_183 : decode b_Model_eval 183 = .ok (.iload 7, 2) := by decide +kernel
theorem d_Model_eval_185 : decode b_Model_eval 185 = .ok (.bipush 40, 2) := by decide +kernel
theorem d_Model_eval_187 : decode b_Model_eval 187 = .ok (.if_icmp .ne 7, 3) := by decide +kernel
theorem d_Model_eval_190 : decode b_Model_eval 190 = .ok (.iconst 0, 1) := by decide +kernel
theorem d_Model_eval_191 : decode b_Model_eval 191 = .ok (.goto 4, 3) := by decide +kernel
theorem d_Model_eval_194 : decode b_Model_eval 194 = .ok (.iconst 4, 1) := by decide +kernel
theorem d_Model_eval_195 : decode b_Model_eval 195 = .ok (.invokevirtual 593, 3) := by decide +kernel
theorem d_Model_eval_198 : decode b_Model_eval 198 = .ok (.lstore 4, 2) := by decide +kernel
theorem d_Model_eval_200 : decode b_Model_eval 200 = .ok (.aload_n 0, 1) := by decide +kernel
theorem d_Model_eval_201 : decode b_Model_eval 201 = .ok (.getfield 559, 3) := by decide +kernel
theorem d_Model_eval_204 : decode b_Model_eval 204 = .ok (.ifCond .eq 7, 3) := by decide +kernel
theorem d_Model_eval_207 : decode b_Model_eval 207 = .ok (.ldc2_w 7, 3) := by decide +kernel
theorem d_Model_eval_210 : decode b_Model_eval 210 = .ok (.lreturn, 1) := by decide +kernel
theorem d_Model_eval_211 : decode b_Model_eval 211 = .ok (.iload 7, 2) := by decide +kernel
theorem d_Model_eval_213 : decode b_Model_eval 213 = .ok (.bipush 40, 2) := by decide +kernel
theorem d_Model_eval_215 : decode b_Model_eval 215 = .ok (.if_icmp .ne 12, 3) := by decide +kernel
theorem d_Model_eval_218 : decode b_Model_eval 218 = .ok (.aload_n 0, 1) := by decide +kernel
theorem d_Model_eval_219 : decode b_Model_eval 219 = .ok (.lload 4, 2) := by decide +kernel
theorem d_Model_eval_221 : decode b_Model_eval 221 = .ok (.invokevirtual 611, 3) := by decide +kernel
theorem d_Model_eval_224 : decode b_Model_eval 224 = .ok (.goto 9, 3) := by decide +kernel
theorem d_Model_eval_227 : decode b_Model_eval 227 = .ok (.aload_n 0, 1) := by decide +kernel
theorem d_Model_eval_228 : decode b_Model_eval 228 = .ok (.lload 4, 2) := by decide +kernel
theorem d_Model_eval_230 : decode b_Model_eval 230 = .ok (.invokevirtual 614, 3) := by decide +kernel
theorem d_Model_eval_233 : decode b_Model_eval 233 = .ok (.lstore 4, 2) := by decide +kernel
theorem d_Model_eval_235 : decode b_Model_eval 235 = .ok (.goto 334, 3) := by decide +kernel
theorem d_Model_eval_238 : decode b_Model_eval 238 = .ok (.iload 8, 2) := by decide +kernel
theorem d_Model_eval_240 : decode b_Model_eval 240 = .ok (.ifCond .eq 17, 3) := by decide +kernel
theorem d_Model_eval_243 : decode b_Model_eval 243 = .ok (.iload 7, 2) := by decide +kernel
theorem d_Model_eval_245 : decode b_Model_eval 245 = .ok (.invokestatic 441, 3) := by decide +kernel
theorem d_Model_eval_248 : decode b_Model_eval 248 = .ok (.ifCond .eq 9, 3) := by decide +kernel
theorem d_Model_eval_251 : decode b_Model_eval 251 = .ok (.aload_n 0, 1) := by decide +kernel
theorem d_Model_eval_252 : decode b_Model_eval 252 = .ok (.iconst 4, 1) := by decide +kernel
theorem d_Model_eval_253 : decode b_Model_eval 253 = .ok (.invokevirtual 596, 3) := by decide +kernel
theorem d_Model_eval_256 : decode b_Model_eval 256 = .ok (.lreturn, 1) := by decide +kernel
theorem d_Model_eval_257 : decode b_Model_eval 257 = .ok (.aload_n 0, 1) := by decide +kernel
theorem d_Model_eval_258 : decode b_Model_eval 258 = .ok (.iload 6, 2) := by decide +kernel
theorem d_Model_eval_260 : decode b_Model_eval 260 = .ok (.invokevirtual 479, 3) := by decide +kernel
theorem d_Model_eval_263 : decode b_Model_eval 263 = .ok (.istore 9, 2) := by decide +kernel
theorem d_Model_eval_265 : decode b_Model_eval 265 = .ok (.iload 9, 2) := by decide +kernel
theorem d_Model_eval_267 : decode b_Model_eval 267 = .ok (.iconst (-1), 1) := by decide +kernel
theorem d_Model_eval_268 : decode b_Model_eval 268 = .ok (.if_icmp .ne 12, 3) := by decide +kernel
theorem d_Model_eval_271 : decode b_Model_eval 271 = .ok (.aload_n 0, 1) := by decide +kernel
theorem d_Model_eval_272 : decode b_Model_eval 272 = .ok (.iload 6, 2) := by decide +kernel
theorem d_Model_eval_274 : decode b_Model_eval 274 = .ok (.invokevirtual 488, 3) := by decide +kernel
theorem d_Model_eval_277 : decode b_Model_eval 277 = .ok (.goto 4, 3) := by decide +kernel
theorem d_Model_eval_280 : decode b_Model_eval 280 = .ok (.iconst (-1), 1) := by decide +kernel
theorem d_Model_eval_281 : decode b_Model_eval 281 = .ok (.istore 10, 2) := by decide +kernel
theorem d_Model_eval_283 : decode b_Model_eval 283 = .ok (.iload 9, 2) := by decide +kernel
theorem d_Model_eval_285 : decode b_Model_eval 285 = .ok (.iconst (-1), 1) := by decide +kernel
theorem d_Model_eval_286 : decode b_Model_eval 286 = .ok (.if_icmp .ne 15, 3) := by decide +kernel
theorem d_Model_eval_289 : decode b_Model_eval 289 = .ok (.iload 10, 2) := by decide +kernel
theorem d_Model_eval_291 : decode b_Model_eval 291 = .ok (.iconst (-1), 1) := by decide +kernel
theorem d_Model_eval_292 : decode b_Model_eval 292 = .ok (.if_icmp .ne 9, 3) := by decide +kernel
theorem d_Model_eval_295 : decode b_Model_eval 295 = .ok (.aload_n 0, 1) := by decide +kernel
theorem d_Model_eval_296 : decode b_Model_eval 296 = .ok (.iconst 1, 1) := by decide +kernel
theorem d_Model_eval_297 : decode b_Model_eval 297 = .ok (.invokevirtual 596, 3) := by decide +kernel
theorem d_Model_eval_300 : decode b_Model_eval 300 = .ok (.lreturn, 1) := by decide +kernel
theorem d_Model_eval_301 : decode b_Model_eval 301 = .ok (.iload 9, 2) := by decide +kernel
theorem d_Model_eval_303 : decode b_Model_eval 303 = .ok (.iconst (-1), 1) := by decide +kernel
theorem d_Model_eval_304 : decode b_Model_eval 304 = .ok (.if_icmp .ne 13, 3) := by decide +kernel
theorem d_Model_eval_307 : decode b_Model_eval 307 = .ok (.aload_n 0, 1) := by decide +kernel
theorem d_Model_eval_308 : decode b_Model_eval 308 = .ok (.getfield 186, 3) := by decide +kernel
theorem d_Model_eval_311 : decode b_Model_eval 311 = .ok (.iload 10, 2) := by decide +kernel
theorem d_Model_eval_313 : decode b_Model_eval 313 = .ok (.iaload, 1) := by decide +kernel
theorem d_Model_eval_314 : decode b_Model_eval 314 = .ok (.goto 8, 3) := by decide +kernel
theorem d_Model_eval_317 : decode b_Model_eval 317 = .ok (.iload 9, 2) := by decide +kernel
theorem d_Model_eval_319 : decode b_Model_eval 319 = .ok (.invokestatic 617, 3) := by decide +kernel
theorem d_Model_eval_322 : decode b_Model_eval 322 = .ok (.istore 11, 2) := by decide +kernel
theorem d_Model_eval_324 : decode b_Model_eval 324 = .ok (.iload 9, 2) := by decide +kernel
theorem d_Model_eval_326 : decode b_Model_eval 326 = .ok (.iconst (-1), 1) := by decide +kernel
theorem d_Model_eval_327 : decode b_Model_eval 327 = .ok (.if_icmp .ne 13, 3) := by decide +kernel
theorem d_Model_eval_330 : decode b_Model_eval 330 = .ok (.aload_n 0, 1) := by decide +kernel
theorem d_Model_eval_331 : decode b_Model_eval 331 = .ok (.getfield 192, 3) := by decide +kernel
theorem d_Model_eval_334 : decode b_Model_eval 334 = .ok (.iload 10, 2) := by decide +kernel
theorem d_Model_eval_336 : decode b_Model_eval 336 = .ok (.laload, 1) := by decide +kernel
theorem d_Model_eval_337 : decode b_Model_eval 337 = .ok (.goto 6, 3) := by decide +kernel
theorem d_Model_eval_340 : decode b_Model_eval 340 = .ok (.ldc2_w 7, 3) := by decide +kernel
theorem d_Model_eval_343 : decode b_Model_eval 343 = .ok (.lstore 12, 2) := by decide +kernel
theorem d_Model_eval_345 : decode b_Model_eval 345 = .ok (.aload_n 0, 1) := by decide +kernel
theorem d_Model_eval_346 : decode b_Model_eval 346 = .ok (.getfield 562, 3) := by decide +kernel
theorem d_Model_eval_349 : decode b_Model_eval 349 = .ok (.istore 14, 2) := by decide +kernel
theorem d_Model_eval_351 : decode b_Model_eval 351 = .ok (.iload 11, 2) := by decide +kernel
theorem d_Model_eval_353 : decode b_Model_eval 353 = .ok (.ifCond .le 14, 3) := by decide +kernel
theorem d_Model_eval_356 : decode b_Model_eval 356 = .ok (.aload_n 0, 1) := by decide +kernel
theorem d_Model_eval_357 : decode b_Model_eval 357 = .ok (.invokevirtual 608, 3) := by decide +kernel
theorem d_Model_eval_360 : decode b_Model_eval 360 = .ok (.ifCond .ne 7, 3) := by decide +kernel
theorem d_Model_eval_363 : decode b_Model_eval 363 = .ok (.ldc2_w 7, 3) := by decide +kernel
theorem d_Model_eval_366 : decode b_Model_eval 366 = .ok (.lreturn, 1) := by decide +kernel
theorem d_Model_eval_367 : decode b_Model_eval 367 = .ok (.iconst 0, 1) := by decide +kernel
theorem d_Model_eval_368 : decode b_Model_eval 368 = .ok (.istore 15, 2) := by decide +kernel
theorem d_Model_eval_370 : decode b_Model_eval 370 = .ok (.iload 9, 2) := by decide +kernel
theorem d_Model_eval_372 : decode b_Model_eval 372 = .ok (.iconst (-1), 1) := by decide +kernel
theorem d_Model_eval_373 : decode b_Model_eval 373 = .ok (.if_icmp .ne 50, 3) := by decide +kernel
theorem d_Model_eval_376 : decode b_Model_eval 376 = .ok (.iload 15, 2) := by decide +kernel
theorem d_Model_eval_378 : decode b_Model_eval 378 = .ok (.iload 11, 2) := by decide +kernel
theorem d_Model_eval_380 : decode b_Model_eval 380 = .ok (.if_icmp .ge 43, 3) := by decide +kernel
theorem d_Model_eval_383 : decode b_Model_eval 383 = .ok (.aload_n 0, 1) := by decide +kernel
theorem d_Model_eval_384 : decode b_Model_eval 384 = .ok (.getfield 301, 3) := by decide +kernel
theorem d_Model_eval_387 : decode b_Model_eval 387 = .ok (.aload_n 0, 1) := by decide +kernel
theorem d_Model_eval_388 : decode b_Model_eval 388 = .ok (.getfield 562, 3) := by decide +kernel
theorem d_Model_eval_391 : decode b_Model_eval 391 = .ok (.aload_n 0, 1) := by decide +kernel
theorem d_Model_eval_392 : decode b_Model_eval 392 = .ok (.getfield 189, 3) := by decide +kernel
theorem d_Model_eval_395 : decode b_Model_eval 395 = .ok (.iconst 5, 1) := by decide +kernel
theorem d_Model_eval_396 : decode b_Model_eval 396 = .ok (.iload 10, 2) := by decide +kernel
theorem d_Model_eval_398 : decode b_Model_eval 398 = .ok (.imul, 1) := by decide +kernel
theorem d_Model_eval_399 : decode b_Model_eval 399 = .ok (.iload 15, 2) := by decide +kernel
theorem d_Model_eval_401 : decode b_Model_eval 401 = .ok (.iadd, 1) := by decide +kernel
theorem d_Model_eval_402 : decode b_Model_eval 402 = .ok (.iaload, 1) := by decide +kernel
theorem d_Model_eval_403 : decode b_Model_eval 403 = .ok (.invokestatic 396, 3) := by decide +kernel
theorem d_Model_eval_406 : decode b_Model_eval 406 = .ok (.lastore, 1) := by decide +kernel
theorem d_Model_eval_407 : decode b_Model_eval 407 = .ok (.aload_n 0, 1) := by decide +kernel
theorem d_Model_eval_408 : decode b_Model_eval 408 = .ok (.dup, 1) := by decide +kernel
theorem d_Model_eval_409 : decode b_Model_eval 409 = .ok (.getfield 562, 3) := by decide +kernel
theorem d_Model_eval_412 : decode b_Model_eval 412 = .ok (.iconst 1, 1) := by decide +kernel
theorem d_Model_eval_413 : decode b_Model_eval 413 = .ok (.iadd, 1) := by decide +kernel
theorem d_Model_eval_414 : decode b_Model_eval 414 = .ok (.putfield 562, 3) := by decide +kernel
theorem d_Model_eval_417 : decode b_Model_eval 417 = .ok (.iinc 15 1, 3) := by decide +kernel
theorem d_Model_eval_420 : decode b_Model_eval 420 = .ok (.goto (-50), 3) := by decide +kernel
theorem d_Model_eval_423 : decode b_Model_eval 423 = .ok (.iconst 0, 1) := by decide +kernel
theorem d_Model_eval_424 : decode b_Model_eval 424 = .ok (.istore 15, 2) := by decide +kernel
theorem d_Model_eval_426 : decode b_Model_eval 426 = .ok (.iload 15, 2) := by decide +kernel
theorem d_Model_eval_428 : decode b_Model_eval 428 = .ok (.iload 11, 2) := by decide +kernel
theorem d_Model_eval_430 : decode b_Model_eval 430 = .ok (.if_icmp .ge 63, 3) := by decide +kernel
theorem d_Model_eval_433 : decode b_Model_eval 433 = .ok (.aload_n 0, 1) := by decide +kernel
theorem d_Model_eval_434 : decode b_Model_eval 434 = .ok (.iconst 0, 1) := by decide +kernel
theorem d_Model_eval_435 : decode b_Model_eval 435 = .ok (.invokevirtual 593, 3) := by decide +kernel
theorem d_Model_eval_438 : decode b_Model_eval 438 = .ok (.lstore 16, 2) := by decide +kernel
theorem d_Model_eval_440 : decode b_Model_eval 440 = .ok (.aload_n 0, 1) := by decide +kernel
theorem d_Model_eval_441 : decode b_Model_eval 441 = .ok (.getfield 559, 3) := by decide +kernel
theorem d_Model_eval_444 : decode b_Model_eval 444 = .ok (.ifCond .eq 7, 3) := by decide +kernel
theorem d_Model_eval_447 : decode b_Model_eval 447 = .ok (.ldc2_w 7, 3) := by decide +kernel
theorem d_Model_eval_450 : decode b_Model_eval 450 = .ok (.lreturn, 1) := by decide +kernel
theorem d_Model_eval_451 : decode b_Model_eval 451 = .ok (.lload 16, 2) := by decide +kernel
theorem d_Model_eval_453 : decode b_Model_eval 453 = .ok (.ldc2_w 7, 3) := by decide +kernel
theorem d_Model_eval_456 : decode b_Model_eval 456 = .ok (.lcmp, 1) := by decide +kernel
theorem d_Model_eval_457 : decode b_Model_eval 457 = .ok (.ifCond .ne 9, 3) := by decide +kernel
theorem d_Model_eval_460 : decode b_Model_eval 460 = .ok (.aload_n 0, 1) := by decide +kernel
theorem d_Model_eval_461 : decode b_Model_eval 461 = .ok (.iconst 4, 1) := by decide +kernel
theorem d_Model_eval_462 : decode b_Model_eval 462 = .ok (.invokevirtual 596, 3) := by decide +kernel
theorem d_Model_eval_465 : decode b_Model_eval 465 = .ok (.lreturn, 1) := by decide +kernel
theorem d_Model_eval_466 : decode b_Model_eval 466 = .ok (.aload_n 0, 1) := by decide +kernel
theorem d_Model_eval_467 : decode b_Model_eval 467 = .ok (.getfield 301, 3) := by decide +kernel
theorem d_Model_eval_470 : decode b_Model_eval 470 = .ok (.aload_n 0, 1) := by decide +kernel
theorem d_Model_eval_471 : decode b_Model_eval 471 = .ok (.getfield 562, 3) := by decide +kernel
theorem d_Model_eval_474 : decode b_Model_eval 474 = .ok (.lload 16, 2) := by decide +kernel
theorem d_Model_eval_476 : decode b_Model_eval 476 = .ok (.lastore, 1) := by decide +kernel
theorem d_Model_eval_477 : decode b_Model_eval 477 = .ok (.aload_n 0, 1) := by decide +kernel
theorem d_Model_eval_478 : decode b_Model_eval 478 = .ok (.dup, 1) := by decide +kernel
theorem d_Model_eval_479 : decode b_Model_eval 479 = .ok (.getfield 562, 3) := by decide +kernel
theorem d_Model_eval_482 : decode b_Model_eval 482 = .ok (.iconst 1, 1) := by decide +kernel
theorem d_Model_eval_483 : decode b_Model_eval 483 = .ok (.iadd, 1) := by decide +kernel
theorem d_Model_eval_484 : decode b_Model_eval 484 = .ok (.putfield 562, 3) := by decide +kernel
theorem d_Model_eval_487 : decode b_Model_eval 487 = .ok (.iinc 15 1, 3) := by decide +kernel
theorem d_Model_eval_490 : decode b_Model_eval 490 = .ok (.goto (-64), 3) := by decide +kernel
theorem d_Model_eval_493 : decode b_Model_eval 493 = .ok (.aload_n 0, 1) := by decide +kernel
theorem d_Model_eval_494 : decode b_Model_eval 494 = .ok (.dup, 1) := by decide +kernel
theorem d_Model_eval_495 : decode b_Model_eval 495 = .ok (.getfield 535, 3) := by decide +kernel
theorem d_Model_eval_498 : decode b_Model_eval 498 = .ok (.iload 11, 2) := by decide +kernel
theorem d_Model_eval_500 : decode b_Model_eval 500 = .ok (.ifCond .le 7, 3) := by decide +kernel
theorem d_Model_eval_503 : decode b_Model_eval 503 = .ok (.iconst 1, 1) := by decide +kernel
theorem d_Model_eval_504 : decode b_Model_eval 504 = .ok (.goto 4, 3) := by decide +kernel
theorem d_Model_eval_507 : decode b_Model_eval 507 = .ok (.iconst 0, 1) := by decide +kernel
theorem d_Model_eval_508 : decode b_Model_eval 508 = .ok (.isub, 1) := by decide +kernel
theorem d_Model_eval_509 : decode b_Model_eval 509 = .ok (.putfield 535, 3) := by decide +kernel
theorem d_Model_eval_512 : decode b_Model_eval 512 = .ok (.aload_n 0, 1) := by decide +kernel
theorem d_Model_eval_513 : decode b_Model_eval 513 = .ok (.invokevirtual 620, 3) := by decide +kernel
theorem d_Model_eval_516 : decode b_Model_eval 516 = .ok (.ifCond .eq 35, 3) := by decide +kernel
theorem d_Model_eval_519 : decode b_Model_eval 519 = .ok (.iload 9, 2) := by decide +kernel
theorem d_Model_eval_521 : decode b_Model_eval 521 = .ok (.iconst (-1), 1) := by decide +kernel
theorem d_Model_eval_522 : decode b_Model_eval 522 = .ok (.if_icmp .ne 18, 3) := by decide +kernel
theorem d_Model_eval_525 : decode b_Model_eval 525 = .ok (.aload_n 0, 1) := by decide +kernel
theorem d_Model_eval_526 : decode b_Model_eval 526 = .ok (.iload 10, 2) := by decide +kernel
theorem d_Model_eval_528 : decode b_Model_eval 528 = .ok (.iload 14, 2) := by decide +kernel
theorem d_Model_eval_530 : decode b_Model_eval 530 = .ok (.iload 11, 2) := by decide +kernel
theorem d_Model_eval_532 : decode b_Model_eval 532 = .ok (.lload 12, 2) := by decide +kernel
theorem d_Model_eval_534 : decode b_Model_eval 534 = .ok (.invokevirtual 623, 3) := by decide +kernel
theorem d_Model_eval_537 : decode b_Model_eval 537 = .ok (.goto 17, 3) := by decide +kernel
theorem d_Model_eval_540 : decode b_Model_eval 540 = .ok (.aload_n 0, 1) := by decide +kernel
theorem d_Model_eval_541 : decode b_Model_eval 541 = .ok (.iload 9, 2) := by decide +kernel
theorem d_Model_eval_543 : decode b_Model_eval 543 = .ok (.iload 14, 2) := by decide +kernel
theorem d_Model_eval_545 : decode b_Model_eval 545 = .ok (.invokevirtual 627, 3) := by decide +kernel
theorem d_Model_eval_548 : decode b_Model_eval 548 = .ok (.goto 6, 3) := by decide +kernel
theorem d_Model_eval_551 : decode b_Model_eval 551 = .ok (.ldc2_w 7, 3) := by decide +kernel
theorem d_Model_eval_554 : decode b_Model_eval 554 = .ok (.lstore 4, 2) := by decide +kernel
theorem d_Model_eval_556 : decode b_Model_eval 556 = .ok (.aload_n 0, 1) := by decide +kernel
theorem d_Model_eval_557 : decode b_Model_eval 557 = .ok (.getfield 559, 3) := by decide +kernel
theorem d_Model_eval_560 : decode b_Model_eval 560 = .ok (.ifCond .ne 9, 3) := by decide +kernel
theorem d_Model_eval_563 : decode b_Model_eval 563 = .ok (.aload_n 0, 1) := by decide +kernel
theorem d_Model_eval_564 : decode b_Model_eval 564 = .ok (.iload 14, 2) := by decide +kernel
theorem d_Model_eval_566 : decode b_Model_eval 566 = .ok (.putfield 562, 3) := by decide +kernel
theorem d_Model_eval_569 : decode b_Model_eval 569 = .ok (.aload_n 0, 1) := by decide +kernel
theorem d_Model_eval_570 : decode b_Model_eval 570 = .ok (.getfield 559, 3) := by decide +kernel
theorem d_Model_eval_573 : decode b_Model_eval 573 = .ok (.ifCond .eq 7, 3) := by decide +kernel
theorem d_Model_eval_576 : decode b_Model_eval 576 = .ok (.ldc2_w 7, 3) := by decide +kernel
theorem d_Model_eval_579 : decode b_Model_eval 579 = .ok (.lreturn, 1) := by decide +kernel
theorem d_Model_eval_580 : decode b_Model_eval 580 = .ok (.aload_n 0, 1) := by decide +kernel
theorem d_Model_eval_581 : decode b_Model_eval 581 = .ok (.iload_n 1, 1) := by decide +kernel
theorem d_Model_eval_582 : decode b_Model_eval 582 = .ok (.invokevirtual 630, 3) := by decide +kernel
theorem d_Model_eval_585 : decode b_Model_eval 585 = .ok (.istore 6, 2) := by decide +kernel
theorem d_Model_eval_587 : decode b_Model_eval 587 = .ok (.iload 6, 2) := by decide +kernel
theorem d_Model_eval_589 : decode b_Model_eval 589 = .ok (.ifCond .le 201, 3) := by decide +kernel
theorem d_Model_eval_592 : decode b_Model_eval 592 = .ok (.lload 4, 2) := by decide +kernel
theorem d_Model_eval_594 : decode b_Model_eval 594 = .ok (.ldc2_w 7, 3) := by decide +kernel
theorem d_Model_eval_597 : decode b_Model_eval 597 = .ok (.lcmp, 1) := by decide +kernel
theorem d_Model_eval_598 : decode b_Model_eval 598 = .ok (.ifCond .ne 9, 3) := by decide +kernel
theorem d_Model_eval_601 : decode b_Model_eval 601 = .ok (.aload_n 0, 1) := by decide +kernel
theorem d_Model_eval_602 : decode b_Model_eval 602 = .ok (.iconst 4, 1) := by decide +kernel
theorem d_Model_eval_603 : decode b_Model_eval 603 = .ok (.invokevirtual 596, 3) := by decide +kernel
theorem d_Model_eval_606 : decode b_Model_eval 606 = .ok (.lreturn, 1) := by decide +kernel
theorem d_Model_eval_607 : decode b_Model_eval 607 = .ok (.aload_n 0, 1) := by decide +kernel
theorem d_Model_eval_608 : decode b_Model_eval 608 = .ok (.getfield 67, 3) := by decide +kernel
theorem d_Model_eval_611 : decode b_Model_eval 611 = .ok (.aload_n 0, 1) := by decide +kernel
theorem d_Model_eval_612 : decode b_Model_eval 612 = .ok (.getfield 15, 3) := by decide +kernel
theorem d_Model_eval_615 : decode b_Model_eval 615 = .ok (.aload_n 0, 1) := by decide +kernel
theorem d_Model_eval_616 : decode b_Model_eval 616 = .ok (.getfield 35, 3) := by decide +kernel
theorem d_Model_eval_619 : decode b_Model_eval 619 = .ok (.aload_n 0, 1) := by decide +kernel
theorem d_Model_eval_620 : decode b_Model_eval 620 = .ok (.getfield 41, 3) := by decide +kernel
theorem d_Model_eval_623 : decode b_Model_eval 623 = .ok (.aload_n 0, 1) := by decide +kernel
theorem d_Model_eval_624 : decode b_Model_eval 624 = .ok (.getfield 587, 3) := by decide +kernel
theorem d_Model_eval_627 : decode b_Model_eval 627 = .ok (.iaload, 1) := by decide +kernel
theorem d_Model_eval_628 : decode b_Model_eval 628 = .ok (.aload_n 0, 1) := by decide +kernel
theorem d_Model_eval_629 : decode b_Model_eval 629 = .ok (.getfield 590, 3) := by decide +kernel
theorem d_Model_eval_632 : decode b_Model_eval 632 = .ok (.iadd, 1) := by decide +kernel
theorem d_Model_eval_633 : decode b_Model_eval 633 = .ok (.laload, 1) := by decide +kernel
theorem d_Model_eval_634 : decode b_Model_eval 634 = .ok (.invokestatic 64, 3) := by decide +kernel
theorem d_Model_eval_637 : decode b_Model_eval 637 = .ok (.iaload, 1) := by decide +kernel
theorem d_Model_eval_638 : decode b_Model_eval 638 = .ok (.baload, 1) := by decide +kernel
theorem d_Model_eval_639 : decode b_Model_eval 639 = .ok (.istore 7, 2) := by decide +kernel
theorem d_Model_eval_641 : decode b_Model_eval 641 = .ok (.aload_n 0, 1) := by decide +kernel
theorem d_Model_eval_642 : decode b_Model_eval 642 = .ok (.dup, 1) := by decide +kernel
theorem d_Model_eval_643 : decode b_Model_eval 643 = .ok (.getfield 590, 3) := by decide +kernel
theorem d_Model_eval_646 : decode b_Model_eval 646 = .ok (.iconst 1, 1) := by decide +kernel
theorem d_Model_eval_647 : decode b_Model_eval 647 = .ok (.iadd, 1) := by decide +kernel
theorem d_Model_eval_648 : decode b_Model_eval 648 = .ok (.putfield 590, 3) := by decide +kernel
theorem d_Model_eval_651 : decode b_Model_eval 651 = .ok (.aload_n 0, 1) := by decide +kernel
theorem d_Model_eval_652 : decode b_Model_eval 652 = .ok (.invokevirtual 608, 3) := by decide +kernel
theorem d_Model_eval_655 : decode b_Model_eval 655 = .ok (.ifCond .ne 7, 3) := by decide +kernel
theorem d_Model_eval_658 : decode b_Model_eval 658 = .ok (.ldc2_w 7, 3) := by decide +kernel
theorem d_Model_eval_661 : decode b_Model_eval 661 = .ok (.lreturn, 1) := by decide +kernel
theorem d_Model_eval_662 : decode b_Model_eval 662 = .ok (.aload_n 0, 1) := by decide +kernel
theorem d_Model_eval_663 : decode b_Model_eval 663 = .ok (.getfield 301, 3) := by decide +kernel
theorem d_Model_eval_666 : decode b_Model_eval 666 = .ok (.aload_n 0, 1) := by decide +kernel
theorem d_Model_eval_667 : decode b_Model_eval 667 = .ok (.getfield 562, 3) := by decide +kernel
theorem d_Model_eval_670 : decode b_Model_eval 670 = .ok (.lload 4, 2) := by decide +kernel
theorem d_Model_eval_672 : decode b_Model_eval 672 = .ok (.lastore, 1) := by decide +kernel
theorem d_Model_eval_673 : decode b_Model_eval 673 = .ok (.aload_n 0, 1) := by decide +kernel
theorem d_Model_eval_674 : decode b_Model_eval 674 = .ok (.dup, 1) := by decide +kernel
theorem d_Model_eval_675 : decode b_Model_eval 675 = .ok (.getfield 562, 3) := by decide +kernel
theorem d_Model_eval_678 : decode b_Model_eval 678 = .ok (.iconst 1, 1) := by decide +kernel
theorem d_Model_eval_679 : decode b_Model_eval 679 = .ok (.iadd, 1) := by decide +kernel
theorem d_Model_eval_680 : decode b_Model_eval 680 = .ok (.putfield 562, 3) := by decide +kernel
theorem d_Model_eval_683 : decode b_Model_eval 683 = .ok (.aload_n 0, 1) := by decide +kernel
theorem d_Model_eval_684 : decode b_Model_eval 684 = .ok (.iload 6, 2) := by decide +kernel
theorem d_Model_eval_686 : decode b_Model_eval 686 = .ok (.invokevirtual 593, 3) := by decide +kernel
theorem d_Model_eval_689 : decode b_Model_eval 689 = .ok (.lstore 8, 2) := by decide +kernel
theorem d_Model_eval_691 : decode b_Model_eval 691 = .ok (.aload_n 0, 1) := by decide +kernel
theorem d_Model_eval_692 : decode b_Model_eval 692 = .ok (.getfield 559, 3) := by decide +kernel
theorem d_Model_eval_695 : decode b_Model_eval 695 = .ok (.ifCond .eq 7, 3) := by decide +kernel
theorem d_Model_eval_698 : decode b_Model_eval 698 = .ok (.ldc2_w 7, 3) := by decide +kernel
theorem d_Model_eval_701 : decode b_Model_eval 701 = .ok (.lreturn, 1) := by decide +kernel
theorem d_Model_eval_702 : decode b_Model_eval 702 = .ok (.lload 8, 2) := by decide +kernel
theorem d_Model_eval_704 : decode b_Model_eval 704 = .ok (.ldc2_w 7, 3) := by decide +kernel
theorem d_Model_eval_707 : decode b_Model_eval 707 = .ok (.lcmp, 1) := by decide +kernel
theorem d_Model_eval_708 : decode b_Model_eval 708 = .ok (.ifCond .ne 9, 3) := by decide +kernel
theorem d_Model_eval_711 : decode b_Model_eval 711 = .ok (.aload_n 0, 1) := by decide +kernel
theorem d_Model_eval_712 : decode b_Model_eval 712 = .ok (.iconst 4, 1) := by decide +kernel
theorem d_Model_eval_713 : decode b_Model_eval 713 = .ok (.invokevirtual 596, 3) := by decide +kernel
theorem d_Model_eval_716 : decode b_Model_eval 716 = .ok (.lreturn, 1) := by decide +kernel
theorem d_Model_eval_717 : decode b_Model_eval 717 = .ok (.aload_n 0, 1) := by decide +kernel
theorem d_Model_eval_718 : decode b_Model_eval 718 = .ok (.dup, 1) := by decide +kernel
theorem d_Model_eval_719 : decode b_Model_eval 719 = .ok (.getfield 535, 3) := by decide +kernel
theorem d_Model_eval_722 : decode b_Model_eval 722 = .ok (.iconst 1, 1) := by decide +kernel
theorem d_Model_eval_723 : decode b_Model_eval 723 = .ok (.isub, 1) := by decide +kernel
theorem d_Model_eval_724 : decode b_Model_eval 724 = .ok (.putfield 535, 3) := by decide +kernel
theorem d_Model_eval_727 : decode b_Model_eval 727 = .ok (.aload_n 0, 1) := by decide +kernel
theorem d_Model_eval_728 : decode b_Model_eval 728 = .ok (.dup, 1) := by decide +kernel
theorem d_Model_eval_729 : decode b_Model_eval 729 = .ok (.getfield 562, 3) := by decide +kernel
theorem d_Model_eval_732 : decode b_Model_eval 732 = .ok (.iconst 1, 1) := by decide +kernel
theorem d_Model_eval_733 : decode b_Model_eval 733 = .ok (.isub, 1) := by decide +kernel
theorem d_Model_eval_734 : decode b_Model_eval 734 = .ok (.putfield 562, 3) := by decide +kernel
theorem d_Model_eval_737 : decode b_Model_eval 737 = .ok (.aload_n 0, 1) := by decide +kernel
theorem d_Model_eval_738 : decode b_Model_eval 738 = .ok (.invokevirtual 620, 3) := by decide +kernel
theorem d_Model_eval_741 : decode b_Model_eval 741 = .ok (.ifCond .eq 23, 3) := by decide +kernel
theorem d_Model_eval_744 : decode b_Model_eval 744 = .ok (.aload_n 0, 1) := by decide +kernel
theorem d_Model_eval_745 : decode b_Model_eval 745 = .ok (.iload 7, 2) := by decide +kernel
theorem d_Model_eval_747 : decode b_Model_eval 747 = .ok (.aload_n 0, 1) := by decide +kernel
theorem d_Model_eval_748 : decode b_Model_eval 748 = .ok (.getfield 301, 3) := by decide +kernel
theorem d_Model_eval_751 : decode b_Model_eval 751 = .ok (.aload_n 0, 1) := by decide +kernel
theorem d_Model_eval_752 : decode b_Model_eval 752 = .ok (.getfield 562, 3) := by decide +kernel
theorem d_Model_eval_755 : decode b_Model_eval 755 = .ok (.laload, 1) := by decide +kernel
theorem d_Model_eval_756 : decode b_Model_eval 756 = .ok (.lload 8, 2) := by decide +kernel
theorem d_Model_eval_758 : decode b_Model_eval 758 = .ok (.invokevirtual 633, 3) := by decide +kernel
theorem d_Model_eval_761 : decode b_Model_eval 761 = .ok (.goto 6, 3) := by decide +kernel
theorem d_Model_eval_764 : decode b_Model_eval 764 = .ok (.ldc2_w 7, 3) := by decide +kernel
theorem d_Model_eval_767 : decode b_Model_eval 767 = .ok (.lstore 4, 2) := by decide +kernel
theorem d_Model_eval_769 : decode b_Model_eval 769 = .ok (.aload_n 0, 1) := by decide +kernel
theorem d_Model_eval_770 : decode b_Model_eval 770 = .ok (.getfield 559, 3) := by decide +kernel
theorem d_Model_eval_773 : decode b_Model_eval 773 = .ok (.ifCond .eq 7, 3) := by decide +kernel
theorem d_Model_eval_776 : decode b_Model_eval 776 = .ok (.ldc2_w 7, 3) := by decide +kernel
theorem d_Model_eval_779 : decode b_Model_eval 779 = .ok (.lreturn, 1) := by decide +kernel
theorem d_Model_eval_780 : decode b_Model_eval 780 = .ok (.aload_n 0, 1) := by decide +kernel
theorem d_Model_eval_781 : decode b_Model_eval 781 = .ok (.iload_n 1, 1) := by decide +kernel
theorem d_Model_eval_782 : decode b_Model_eval 782 = .ok (.invokevirtual 630, 3) := by decide +kernel
theorem d_Model_eval_785 : decode b_Model_eval 785 = .ok (.istore 6, 2) := by decide +kernel
theorem d_Model_eval_787 : decode b_Model_eval 787 = .ok (.goto (-200), 3) := by decide +kernel
theorem d_Model_eval_790 : decode b_Model_eval 790 = .ok (.lload 4, 2) := by decide +kernel
theorem d_Model_eval_792 : decode b_Model_eval 792 = .ok (.lreturn, 1) := by decide +kernel
theorem lk_Model_630 : Cond.methodLink "TurtleWorldModel" 630 ⟨"TurtleWorldModel", "signAhead", "(I)I"⟩ ∈ tw_T := tw_i11 168 (by decide +kernel) (by decide +kernel)
theorem hd_Model_signAhead : y_Model_signAhead.cls ≠ "java/lang/invoke/MethodHandle" ∧ y_Model_signAhead.cls ≠ "java/lang/invoke/VarHandle" ∧ (parseMethodDescriptor y_Model_signAhead.desc).map (fun d => d.parameters.length) = some 1 := by decide +kernel
theorem in_Model_signAhead : Cond.instanceMethod ⟨"TurtleWorldModel", "signAhead", "(I)I"⟩ ∈ tw_T := tw_i11 170 (by decide +kernel) (by decide +kernel)
theorem sel_Model_signAhead : Cond.selects "TurtleWorldModel" ⟨"TurtleWorldModel", "signAhead", "(I)I"⟩ ⟨"TurtleWorldModel", "signAhead", "(I)I"⟩ ∈ tw_T := tw_inS 164 (by decide +kernel) (by decide +kernel)
theorem lk_Model_608 : Cond.methodLink "TurtleWorldModel" 608 ⟨"TurtleWorldModel", "waits", "()Z"⟩ ∈ tw_T := tw_i10 176 (by decide +kernel) (by decide +kernel)
theorem hd_Model_waits : y_Model_waits.cls ≠ "java/lang/invoke/MethodHandle" ∧ y_Model_waits.cls ≠ "java/lang/invoke/VarHandle" ∧ (parseMethodDescriptor y_Model_waits.desc).map (fun d => d.parameters.length) = some 0 := by decide +kernel
theorem in_Model_waits : Cond.instanceMethod ⟨"TurtleWorldModel", "waits", "()Z"⟩ ∈ tw_T := tw_i10 178 (by decide +kernel) (by decide +kernel)
theorem sel_Model_waits : Cond.selects "TurtleWorldModel" ⟨"TurtleWorldModel", "waits", "()Z"⟩ ⟨"TurtleWorldModel", "waits", "()Z"⟩ ∈ tw_T := tw_inS 121 (by decide +kernel) (by decide +kernel)
theorem lk_Model_593 : Cond.methodLink "TurtleWorldModel" 593 ⟨"TurtleWorldModel", "eval", "(I)J"⟩ ∈ tw_T := tw_i10 156 (by decide +kernel) (by decide +kernel)
theorem hd_Model_eval : y_Model_eval.cls ≠ "java/lang/invoke/MethodHandle" ∧ y_Model_eval.cls ≠ "java/lang/invoke/VarHandle" ∧ (parseMethodDescriptor y_Model_eval.desc).map (fun d => d.parameters.length) = some 1 := by decide +kernel
theorem in_Model_eval : Cond.instanceMethod ⟨"TurtleWorldModel", "eval", "(I)J"⟩ ∈ tw_T := tw_i10 158 (by decide +kernel) (by decide +kernel)
theorem sel_Model_eval : Cond.selects "TurtleWorldModel" ⟨"TurtleWorldModel", "eval", "(I)J"⟩ ⟨"TurtleWorldModel", "eval", "(I)J"⟩ ∈ tw_T := tw_inS 116 (by decide +kernel) (by decide +kernel)
theorem lk_Model_633 : Cond.methodLink "TurtleWorldModel" 633 ⟨"TurtleWorldModel", "binary", "(IJJ)J"⟩ ∈ tw_T := tw_i11 172 (by decide +kernel) (by decide +kernel)
theorem hd_Model_binary : y_Model_binary.cls ≠ "java/lang/invoke/MethodHandle" ∧ y_Model_binary.cls ≠ "java/lang/invoke/VarHandle" ∧ (parseMethodDescriptor y_Model_binary.desc).map (fun d => d.parameters.length) = some 3 := by decide +kernel
theorem in_Model_binary : Cond.instanceMethod ⟨"TurtleWorldModel", "binary", "(IJJ)J"⟩ ∈ tw_T := tw_i11 174 (by decide +kernel) (by decide +kernel)
theorem sel_Model_binary : Cond.selects "TurtleWorldModel" ⟨"TurtleWorldModel", "binary", "(IJJ)J"⟩ ⟨"TurtleWorldModel", "binary", "(IJJ)J"⟩ ∈ tw_T := tw_inS 165 (by decide +kernel) (by decide +kernel)
theorem lk_Model_617 : Cond.methodLink "TurtleWorldModel" 617 ⟨"TurtleWorldModel", "arity", "(I)I"⟩ ∈ tw_T := tw_i10 193 (by decide +kernel) (by decide +kernel)
theorem hd_Model_arity : y_Model_arity.cls ≠ "java/lang/invoke/MethodHandle" ∧ y_Model_arity.cls ≠ "java/lang/invoke/VarHandle" ∧ (parseMethodDescriptor y_Model_arity.desc).map (fun d => d.parameters.length) = some 1 := by decide +kernel
theorem st_Model_arity : Cond.static ⟨"TurtleWorldModel", "arity", "(I)I"⟩ ∈ tw_T := tw_i10 194 (by decide +kernel) (by decide +kernel)
theorem lk_Model_627 : Cond.methodLink "TurtleWorldModel" 627 ⟨"TurtleWorldModel", "applied", "(II)J"⟩ ∈ tw_T := tw_i10 213 (by decide +kernel) (by decide +kernel)
theorem hd_Model_applied : y_Model_applied.cls ≠ "java/lang/invoke/MethodHandle" ∧ y_Model_applied.cls ≠ "java/lang/invoke/VarHandle" ∧ (parseMethodDescriptor y_Model_applied.desc).map (fun d => d.parameters.length) = some 2 := by decide +kernel
theorem in_Model_applied : Cond.instanceMethod ⟨"TurtleWorldModel", "applied", "(II)J"⟩ ∈ tw_T := tw_i10 215 (by decide +kernel) (by decide +kernel)
theorem sel_Model_applied : Cond.selects "TurtleWorldModel" ⟨"TurtleWorldModel", "applied", "(II)J"⟩ ⟨"TurtleWorldModel", "applied", "(II)J"⟩ ∈ tw_T := tw_inS 129 (by decide +kernel) (by decide +kernel)
theorem lk_Model_623 : Cond.methodLink "TurtleWorldModel" 623 ⟨"TurtleWorldModel", "called", "(IIIJ)J"⟩ ∈ tw_T := tw_i10 197 (by decide +kernel) (by decide +kernel)
theorem hd_Model_called : y_Model_called.cls ≠ "java/lang/invoke/MethodHandle" ∧ y_Model_called.cls ≠ "java/lang/invoke/VarHandle" ∧ (parseMethodDescriptor y_Model_called.desc).map (fun d => d.parameters.length) = some 4 := by decide +kernel
theorem in_Model_called : Cond.instanceMethod ⟨"TurtleWorldModel", "called", "(IIIJ)J"⟩ ∈ tw_T := tw_i10 199 (by decide +kernel) (by decide +kernel)
theorem sel_Model_called : Cond.selects "TurtleWorldModel" ⟨"TurtleWorldModel", "called", "(IIIJ)J"⟩ ⟨"TurtleWorldModel", "called", "(IIIJ)J"⟩ ∈ tw_T := tw_inS 125 (by decide +kernel) (by decide +kernel)
theorem lk_Model_614 : Cond.methodLink "TurtleWorldModel" 614 ⟨"TurtleWorldModel", "minus", "(J)J"⟩ ∈ tw_T := tw_i10 185 (by decide +kernel) (by decide +kernel)
theorem hd_Model_minus : y_Model_minus.cls ≠ "java/lang/invoke/MethodHandle" ∧ y_Model_minus.cls ≠ "java/lang/invoke/VarHandle" ∧ (parseMethodDescriptor y_Model_minus.desc).map (fun d => d.parameters.length) = some 1 := by decide +kernel
theorem in_Model_minus : Cond.instanceMethod ⟨"TurtleWorldModel", "minus", "(J)J"⟩ ∈ tw_T := tw_i10 187 (by decide +kernel) (by decide +kernel)
theorem sel_Model_minus : Cond.selects "TurtleWorldModel" ⟨"TurtleWorldModel", "minus", "(J)J"⟩ ⟨"TurtleWorldModel", "minus", "(J)J"⟩ ∈ tw_T := tw_inS 123 (by decide +kernel) (by decide +kernel)
theorem lk_Model_611 : Cond.methodLink "TurtleWorldModel" 611 ⟨"TurtleWorldModel", "closed", "(J)J"⟩ ∈ tw_T := tw_i10 180 (by decide +kernel) (by decide +kernel)
theorem hd_Model_closed : y_Model_closed.cls ≠ "java/lang/invoke/MethodHandle" ∧ y_Model_closed.cls ≠ "java/lang/invoke/VarHandle" ∧ (parseMethodDescriptor y_Model_closed.desc).map (fun d => d.parameters.length) = some 1 := by decide +kernel
theorem in_Model_closed : Cond.instanceMethod ⟨"TurtleWorldModel", "closed", "(J)J"⟩ ∈ tw_T := tw_i10 182 (by decide +kernel) (by decide +kernel)
theorem sel_Model_closed : Cond.selects "TurtleWorldModel" ⟨"TurtleWorldModel", "closed", "(J)J"⟩ ⟨"TurtleWorldModel", "closed", "(J)J"⟩ ∈ tw_T := tw_inS 122 (by decide +kernel) (by decide +kernel)
theorem lk_Model_602 : Cond.methodLink "TurtleWorldModel" 602 ⟨"TurtleWorldModel", "quoted", "(I)J"⟩ ∈ tw_T := tw_i10 164 (by decide +kernel) (by decide +kernel)
theorem hd_Model_quoted : y_Model_quoted.cls ≠ "java/lang/invoke/MethodHandle" ∧ y_Model_quoted.cls ≠ "java/lang/invoke/VarHandle" ∧ (parseMethodDescriptor y_Model_quoted.desc).map (fun d => d.parameters.length) = some 1 := by decide +kernel
theorem in_Model_quoted : Cond.instanceMethod ⟨"TurtleWorldModel", "quoted", "(I)J"⟩ ∈ tw_T := tw_i10 166 (by decide +kernel) (by decide +kernel)
theorem sel_Model_quoted : Cond.selects "TurtleWorldModel" ⟨"TurtleWorldModel", "quoted", "(I)J"⟩ ⟨"TurtleWorldModel", "quoted", "(I)J"⟩ ∈ tw_T := tw_inS 118 (by decide +kernel) (by decide +kernel)
theorem d_Model_called_0 : decode b_Model_called 0 = .ok (.aload_n 0, 1) := by decide +kernel
theorem d_Model_called_1 : decode b_Model_called 1 = .ok (.invokevirtual 646, 3) := by decide +kernel
theorem d_Model_called_4 : decode b_Model_called 4 = .ok (.ifCond .ne 7, 3) := by decide +kernel
theorem d_Model_called_7 : decode b_Model_called 7 = .ok (.ldc2_w 7, 3) := by decide +kernel
theorem d_Model_called_10 : decode b_Model_called 10 = .ok (.lreturn, 1) := by decide +kernel
theorem d_Model_called_11 : decode b_Model_called 11 = .ok (.aload_n 0, 1) := by decide +kernel
theorem d_Model_called_12 : decode b_Model_called 12 = .ok (.getfield 535, 3) := by decide +kernel
theorem d_Model_called_15 : decode b_Model_called 15 = .ok (.istore 6, 2) := by decide +kernel
theorem d_Model_called_17 : decode b_Model_called 17 = .ok (.aload_n 0, 1) := by decide +kernel
theorem d_Model_called_18 : decode b_Model_called 18 = .ok (.getfield 532, 3) := by decide +kernel
theorem d_Model_called_21 : decode b_Model_called 21 = .ok (.istore 7, 2) := by decide +kernel
theorem d_Model_called_23 : decode b_Model_called 23 = .ok (.aload_n 0, 1) := by decide +kernel
theorem d_Model_called_24 : decode b_Model_called 24 = .ok (.getfield 565, 3) := by decide +kernel
theorem d_Model_called_27 : decode b_Model_called 27 = .ok (.istore 8, 2) := by decide +kernel
theorem d_Model_called_29 : decode b_Model_called 29 = .ok (.aload_n 0, 1) := by decide +kernel
theorem d_Model_called_30 : decode b_Model_called 30 = .ok (.getfield 568, 3) := by decide +kernel
theorem d_Model_called_33 : decode b_Model_called 33 = .ok (.istore 9, 2) := by decide +kernel
theorem d_Model_called_35 : decode b_Model_called 35 = .ok (.aload_n 0, 1) := by decide +kernel
theorem d_Model_called_36 : decode b_Model_called 36 = .ok (.getfield 538, 3) := by decide +kernel
theorem d_Model_called_39 : decode b_Model_called 39 = .ok (.istore 10, 2) := by decide +kernel
theorem d_Model_called_41 : decode b_Model_called 41 = .ok (.aload_n 0, 1) := by decide +kernel
theorem d_Model_called_42 : decode b_Model_called 42 = .ok (.getfield 304, 3) := by decide +kernel
theorem d_Model_called_45 : decode b_Model_called 45 = .ok (.iload 10, 2) := by decide +kernel
theorem d_Model_called_47 : decode b_Model_called 47 = .ok (.iload_n 1, 1) := by decide +kernel
theorem d_Model_called_48 : decode b_Model_called 48 = .ok (.iastore, 1) := by decide +kernel
theorem d_Model_called_49 : decode b_Model_called 49 = .ok (.aload_n 0, 1) := by decide +kernel
theorem d_Model_called_50 : decode b_Model_called 50 = .ok (.getfield 307, 3) := by decide +kernel
theorem d_Model_called_53 : decode b_Model_called 53 = .ok (.iload 10, 2) := by decide +kernel
theorem d_Model_called_55 : decode b_Model_called 55 = .ok (.iload_n 3, 1) := by decide +kernel
theorem d_Model_called_56 : decode b_Model_called 56 = .ok (.iastore, 1) := by decide +kernel
theorem d_Model_called_57 : decode b_Model_called 57 = .ok (.iconst 0, 1) := by decide +kernel
theorem d_Model_called_58 : decode b_Model_called 58 = .ok (.istore 11, 2) := by decide +kernel
theorem d_Model_called_60 : decode b_Model_called 60 = .ok (.iload 11, 2) := by decide +kernel
theorem d_Model_called_62 : decode b_Model_called 62 = .ok (.iload_n 3, 1) := by decide +kernel
theorem d_Model_called_63 : decode b_Model_called 63 = .ok (.if_icmp .ge 58, 3) := by decide +kernel
theorem d_Model_called_66 : decode b_Model_called 66 = .ok (.aload_n 0, 1) := by decide +kernel
theorem d_Model_called_67 : decode b_Model_called 67 = .ok (.getfield 310, 3) := by decide +kernel
theorem d_Model_called_70 : decode b_Model_called 70 = .ok (.bipush 12, 2) := by decide +kernel
theorem d_Model_called_72 : decode b_Model_called 72 = .ok (.iload 10, 2) := by decide +kernel
theorem d_Model_called_74 : decode b_Model_called 74 = .ok (.imul, 1) := by decide +kernel
theorem d_Model_called_75 : decode b_Model_called 75 = .ok (.iload 11, 2) := by decide +kernel
theorem d_Model_called_77 : decode b_Model_called 77 = .ok (.iadd, 1) := by decide +kernel
theorem d_Model_called_78 : decode b_Model_called 78 = .ok (.aload_n 0, 1) := by decide +kernel
theorem d_Model_called_79 : decode b_Model_called 79 = .ok (.getfield 301, 3) := by decide +kernel
theorem d_Model_called_82 : decode b_Model_called 82 = .ok (.iload_n 2, 1) := by decide +kernel
theorem d_Model_called_83 : decode b_Model_called 83 = .ok (.iload 11, 2) := by decide +kernel
theorem d_Model_called_85 : decode b_Model_called 85 = .ok (.iadd, 1) := by decide +kernel
theorem d_Model_called_86 : decode b_Model_called 86 = .ok (.laload, 1) := by decide +kernel
theorem d_Model_called_87 : decode b_Model_called 87 = .ok (.invokestatic 64, 3) := by decide +kernel
theorem d_Model_called_90 : decode b_Model_called 90 = .ok (.iastore, 1) := by decide +kernel
theorem d_Model_called_91 : decode b_Model_called 91 = .ok (.aload_n 0, 1) := by decide +kernel
theorem d_Model_called_92 : decode b_Model_called 92 = .ok (.getfield 313, 3) := by decide +kernel
theorem d_Model_called_95 : decode b_Model_called 95 = .ok (.bipush 12, 2) := by decide +kernel
theorem d_Model_called_97 : decode b_Model_called 97 = .ok (.iload 10, 2) := by decide +kernel
theorem d_Model_called_99 : decode b_Model_called 99 = .ok (.imul, 1) := by decide +kernel
theorem d_Model_called_100 : decode b_Model_called 100 = .ok (.iload 11, 2) := by decide +kernel
theorem d_Model_called_102 : decode b_Model_called 102 = .ok (.iadd, 1) := by decide +kernel
theorem d_Model_called_103 : decode b_Model_called 103 = .ok (.aload_n 0, 1) := by decide +kernel
theorem d_Model_called_104 : decode b_Model_called 104 = .ok (.getfield 301, 3) := by decide +kernel
theorem d_Model_called_107 : decode b_Model_called 107 = .ok (.iload_n 2, 1) := by decide +kernel
theorem d_Model_called_108 : decode b_Model_called 108 = .ok (.iload_n 3, 1) := by decide +kernel
theorem d_Model_called_109 : decode b_Model_called 109 = .ok (.iadd, 1) := by decide +kernel
theorem d_Model_called_110 : decode b_Model_called 110 = .ok (.iload 11, 2) := by decide +kernel
theorem d_Model_called_112 : decode b_Model_called 112 = .ok (.iadd, 1) := by decide +kernel
theorem d_Model_called_113 : decode b_Model_called 113 = .ok (.laload, 1) := by decide +kernel
theorem d_Model_called_114 : decode b_Model_called 114 = .ok (.lastore, 1) := by decide +kernel
theorem d_Model_called_115 : decode b_Model_called 115 = .ok (.iinc 11 1, 3) := by decide +kernel
theorem d_Model_called_118 : decode b_Model_called 118 = .ok (.goto (-58), 3) := by decide +kernel
theorem d_Model_called_121 : decode b_Model_called 121 = .ok (.aload_n 0, 1) := by decide +kernel
theorem d_Model_called_122 : decode b_Model_called 122 = .ok (.dup, 1) := by decide +kernel
theorem d_Model_called_123 : decode b_Model_called 123 = .ok (.getfield 538, 3) := by decide +kernel
theorem d_Model_called_126 : decode b_Model_called 126 = .ok (.iconst 1, 1) := by decide +kernel
theorem d_Model_called_127 : decode b_Model_called 127 = .ok (.iadd, 1) := by decide +kernel
theorem d_Model_called_128 : decode b_Model_called 128 = .ok (.putfield 538, 3) := by decide +kernel
theorem d_Model_called_131 : decode b_Model_called 131 = .ok (.aload_n 0, 1) := by decide +kernel
theorem d_Model_called_132 : decode b_Model_called 132 = .ok (.lload 4, 2) := by decide +kernel
theorem d_Model_called_134 : decode b_Model_called 134 = .ok (.iconst 0, 1) := by decide +kernel
theorem d_Model_called_135 : decode b_Model_called 135 = .ok (.invokevirtual 649, 3) := by decide +kernel
theorem d_Model_called_138 : decode b_Model_called 138 = .ok (.lstore 11, 2) := by decide +kernel
theorem d_Model_called_140 : decode b_Model_called 140 = .ok (.aload_n 0, 1) := by decide +kernel
theorem d_Model_called_141 : decode b_Model_called 141 = .ok (.getfield 559, 3) := by decide +kernel
theorem d_Model_called_144 : decode b_Model_called 144 = .ok (.iconst 1, 1) := by decide +kernel
theorem d_Model_called_145 : decode b_Model_called 145 = .ok (.if_icmp .ne 7, 3) := by decide +kernel
theorem d_Model_called_148 : decode b_Model_called 148 = .ok (.ldc2_w 7, 3) := by decide +kernel
theorem d_Model_called_151 : decode b_Model_called 151 = .ok (.lreturn, 1) := by decide +kernel
theorem d_Model_called_152 : decode b_Model_called 152 = .ok (.aload_n 0, 1) := by decide +kernel
theorem d_Model_called_153 : decode b_Model_called 153 = .ok (.dup, 1) := by decide +kernel
theorem d_Model_called_154 : decode b_Model_called 154 = .ok (.getfield 538, 3) := by decide +kernel
theorem d_Model_called_157 : decode b_Model_called 157 = .ok (.iconst 1, 1) := by decide +kernel
theorem d_Model_called_158 : decode b_Model_called 158 = .ok (.isub, 1) := by decide +kernel
theorem d_Model_called_159 : decode b_Model_called 159 = .ok (.putfield 538, 3) := by decide +kernel
theorem d_Model_called_162 : decode b_Model_called 162 = .ok (.aload_n 0, 1) := by decide +kernel
theorem d_Model_called_163 : decode b_Model_called 163 = .ok (.getfield 559, 3) := by decide +kernel
theorem d_Model_called_166 : decode b_Model_called 166 = .ok (.iconst 5, 1) := by decide +kernel
theorem d_Model_called_167 : decode b_Model_called 167 = .ok (.if_icmp .ne 10, 3) := by decide +kernel
theorem d_Model_called_170 : decode b_Model_called 170 = .ok (.aload_n 0, 1) := by decide +kernel
theorem d_Model_called_171 : decode b_Model_called 171 = .ok (.getfield 652, 3) := by decide +kernel
theorem d_Model_called_174 : decode b_Model_called 174 = .ok (.goto 6, 3) := by decide +kernel
theorem d_Model_called_177 : decode b_Model_called 177 = .ok (.ldc2_w 7, 3) := by decide +kernel
theorem d_Model_called_180 : decode b_Model_called 180 = .ok (.lstore 13, 2) := by decide +kernel
theorem d_Model_called_182 : decode b_Model_called 182 = .ok (.aload_n 0, 1) := by decide +kernel
theorem d_Model_called_183 : decode b_Model_called 183 = .ok (.getfield 559, 3) := by decide +kernel
theorem d_Model_called_186 : decode b_Model_called 186 = .ok (.iconst 4, 1) := by decide +kernel
theorem d_Model_called_187 : decode b_Model_called 187 = .ok (.if_icmp .eq 11, 3) := by decide +kernel
theorem d_Model_called_190 : decode b_Model_called 190 = .ok (.aload_n 0, 1) := by decide +kernel
theorem d_Model_called_191 : decode b_Model_called 191 = .ok (.getfield 559, 3) := by decide +kernel
theorem d_Model_called_194 : decode b_Model_called 194 = .ok (.iconst 5, 1) := by decide +kernel
theorem d_Model_called_195 : decode b_Model_called 195 = .ok (.if_icmp .ne 32, 3) := by decide +kernel
theorem d_Model_called_198 : decode b_Model_called 198 = .ok (.aload_n 0, 1) := by decide +kernel
theorem d_Model_called_199 : decode b_Model_called 199 = .ok (.iconst 0, 1) := by decide +kernel
theorem d_Model_called_200 : decode b_Model_called 200 = .ok (.putfield 559, 3) := by decide +kernel
theorem d_Model_called_203 : decode b_Model_called 203 = .ok (.aload_n 0, 1) := by decide +kernel
theorem d_Model_called_204 : decode b_Model_called 204 = .ok (.iload 6, 2) := by decide +kernel
theorem d_Model_called_206 : decode b_Model_called 206 = .ok (.putfield 535, 3) := by decide +kernel
theorem d_Model_called_209 : decode b_Model_called 209 = .ok (.aload_n 0, 1) := by decide +kernel
theorem d_Model_called_210 : decode b_Model_called 210 = .ok (.iload 7, 2) := by decide +kernel
theorem d_Model_called_212 : decode b_Model_called 212 = .ok (.putfield 532, 3) := by decide +kernel
theorem d_Model_called_215 : decode b_Model_called 215 = .ok (.aload_n 0, 1) := by decide +kernel
theorem d_Model_called_216 : decode b_Model_called 216 = .ok (.iload 8, 2) := by decide +kernel
theorem d_Model_called_218 : decode b_Model_called 218 = .ok (.putfield 565, 3) := by decide +kernel
theorem d_Model_called_221 : decode b_Model_called 221 = .ok (.aload_n 0, 1) := by decide +kernel
theorem d_Model_called_222 : decode b_Model_called 222 = .ok (.iload 9, 2) := by decide +kernel
theorem d_Model_called_224 : decode b_Model_called 224 = .ok (.putfield 568, 3) := by decide +kernel
theorem d_Model_called_227 : decode b_Model_called 227 = .ok (.lload 13, 2) := by decide +kernel
theorem d_Model_called_229 : decode b_Model_called 229 = .ok (.lreturn, 1) := by decide +kernel
theorem lk_Model_646 : Cond.methodLink "TurtleWorldModel" 646 ⟨"TurtleWorldModel", "hasLevel", "()Z"⟩ ∈ tw_T := tw_i10 201 (by decide +kernel) (by decide +kernel)
theorem hd_Model_hasLevel : y_Model_hasLevel.cls ≠ "java/lang/invoke/MethodHandle" ∧ y_Model_hasLevel.cls ≠ "java/lang/invoke/VarHandle" ∧ (parseMethodDescriptor y_Model_hasLevel.desc).map (fun d => d.parameters.length) = some 0 := by decide +kernel
theorem in_Model_hasLevel : Cond.instanceMethod ⟨"TurtleWorldModel", "hasLevel", "()Z"⟩ ∈ tw_T := tw_i10 203 (by decide +kernel) (by decide +kernel)
theorem sel_Model_hasLevel : Cond.selects "TurtleWorldModel" ⟨"TurtleWorldModel", "hasLevel", "()Z"⟩ ⟨"TurtleWorldModel", "hasLevel", "()Z"⟩ ∈ tw_T := tw_inS 126 (by decide +kernel) (by decide +kernel)
theorem lk_Model_649 : Cond.methodLink "TurtleWorldModel" 649 ⟨"TurtleWorldModel", "ran", "(JZ)J"⟩ ∈ tw_T := tw_i10 205 (by decide +kernel) (by decide +kernel)
theorem hd_Model_ran : y_Model_ran.cls ≠ "java/lang/invoke/MethodHandle" ∧ y_Model_ran.cls ≠ "java/lang/invoke/VarHandle" ∧ (parseMethodDescriptor y_Model_ran.desc).map (fun d => d.parameters.length) = some 2 := by decide +kernel
theorem in_Model_ran : Cond.instanceMethod ⟨"TurtleWorldModel", "ran", "(JZ)J"⟩ ∈ tw_T := tw_i10 207 (by decide +kernel) (by decide +kernel)
theorem sel_Model_ran : Cond.selects "TurtleWorldModel" ⟨"TurtleWorldModel", "ran", "(JZ)J"⟩ ⟨"TurtleWorldModel", "ran", "(JZ)J"⟩ ∈ tw_T := tw_inS 127 (by decide +kernel) (by decide +kernel)
theorem lk_Model_652 : Cond.fieldLink "TurtleWorldModel" 652 "TurtleWorldModel" "given" "J" ∈ tw_T := tw_i8 188 (by decide +kernel) (by decide +kernel)
theorem d_Model_ran_0 : decode b_Model_ran 0 = .ok (.aload_n 0, 1) := by decide +kernel
theorem d_Model_ran_1 : decode b_Model_ran 1 = .ok (.dup, 1) := by decide +kernel
theorem d_Model_ran_2 : decode b_Model_ran 2 = .ok (.getfield 532, 3) := by decide +kernel
theorem d_Model_ran_5 : decode b_Model_ran 5 = .ok (.iconst 1, 1) := by decide +kernel
theorem d_Model_ran_6 : decode b_Model_ran 6 = .ok (.iadd, 1) := by decide +kernel
theorem d_Model_ran_7 : decode b_Model_ran 7 = .ok (.putfield 532, 3) := by decide +kernel
theorem d_Model_ran_10 : decode b_Model_ran 10 = .ok (.aload_n 0, 1) := by decide +kernel
theorem d_Model_ran_11 : decode b_Model_ran 11 = .ok (.lload_n 1, 1) := by decide +kernel
theorem d_Model_ran_12 : decode b_Model_ran 12 = .ok (.iload_n 3, 1) := by decide +kernel
theorem d_Model_ran_13 : decode b_Model_ran 13 = .ok (.invokevirtual 642, 3) := by decide +kernel
theorem d_Model_ran_16 : decode b_Model_ran 16 = .ok (.lstore 4, 2) := by decide +kernel
theorem d_Model_ran_18 : decode b_Model_ran 18 = .ok (.aload_n 0, 1) := by decide +kernel
theorem d_Model_ran_19 : decode b_Model_ran 19 = .ok (.dup, 1) := by decide +kernel
theorem d_Model_ran_20 : decode b_Model_ran 20 = .ok (.getfield 532, 3) := by decide +kernel
theorem d_Model_ran_23 : decode b_Model_ran 23 = .ok (.aload_n 0, 1) := by decide +kernel
theorem d_Model_ran_24 : decode b_Model_ran 24 = .ok (.getfield 559, 3) := by decide +kernel
theorem d_Model_ran_27 : decode b_Model_ran 27 = .ok (.iconst 1, 1) := by decide +kernel
theorem d_Model_ran_28 : decode b_Model_ran 28 = .ok (.if_icmp .ne 7, 3) := by decide +kernel
theorem d_Model_ran_31 : decode b_Model_ran 31 = .ok (.iconst 0, 1) := by decide +kernel
theorem d_Model_ran_32 : decode b_Model_ran 32 = .ok (.goto 4, 3) := by decide +kernel
theorem d_Model_ran_35 : decode b_Model_ran 35 = .ok (.iconst 1, 1) := by decide +kernel
theorem d_Model_ran_36 : decode b_Model_ran 36 = .ok (.isub, 1) := by decide +kernel
theorem d_Model_ran_37 : decode b_Model_ran 37 = .ok (.putfield 532, 3) := by decide +kernel
theorem d_Model_ran_40 : decode b_Model_ran 40 = .ok (.lload 4, 2) := by decide +kernel
theorem d_Model_ran_42 : decode b_Model_ran 42 = .ok (.lreturn, 1) := by decide +kernel
theorem lk_Model_642 : Cond.methodLink "TurtleWorldModel" 642 ⟨"TurtleWorldModel", "runs", "(JZ)J"⟩ ∈ tw_T := tw_i10 209 (by decide +kernel) (by decide +kernel)
theorem hd_Model_runs : y_Model_runs.cls ≠ "java/lang/invoke/MethodHandle" ∧ y_Model_runs.cls ≠ "java/lang/invoke/VarHandle" ∧ (parseMethodDescriptor y_Model_runs.desc).map (fun d => d.parameters.length) = some 2 := by decide +kernel
theorem in_Model_runs : Cond.instanceMethod ⟨"TurtleWorldModel", "runs", "(JZ)J"⟩ ∈ tw_T := tw_i10 211 (by decide +kernel) (by decide +kernel)
theorem sel_Model_runs : Cond.selects "TurtleWorldModel" ⟨"TurtleWorldModel", "runs", "(JZ)J"⟩ ⟨"TurtleWorldModel", "runs", "(JZ)J"⟩ ∈ tw_T := tw_inS 128 (by decide +kernel) (by decide +kernel)
theorem d_Model_runs_0 : decode b_Model_runs 0 = .ok (.aload_n 0, 1) := by decide +kernel
theorem d_Model_runs_1 : decode b_Model_runs 1 = .ok (.getfield 587, 3) := by decide +kernel
theorem d_Model_runs_4 : decode b_Model_runs 4 = .ok (.istore 4, 2) := by decide +kernel
theorem d_Model_runs_6 : decode b_Model_runs 6 = .ok (.aload_n 0, 1) := by decide +kernel
theorem d_Model_runs_7 : decode b_Model_runs 7 = .ok (.getfield 590, 3) := by decide +kernel
theorem d_Model_runs_10 : decode b_Model_runs 10 = .ok (.istore 5, 2) := by decide +kernel
theorem d_Model_runs_12 : decode b_Model_runs 12 = .ok (.aload_n 0, 1) := by decide +kernel
theorem d_Model_runs_13 : decode b_Model_runs 13 = .ok (.lload_n 1, 1) := by decide +kernel
theorem d_Model_runs_14 : decode b_Model_runs 14 = .ok (.invokestatic 64, 3) := by decide +kernel
theorem d_Model_runs_17 : decode b_Model_runs 17 = .ok (.putfield 587, 3) := by decide +kernel
theorem d_Model_runs_20 : decode b_Model_runs 20 = .ok (.aload_n 0, 1) := by decide +kernel
theorem d_Model_runs_21 : decode b_Model_runs 21 = .ok (.iconst 0, 1) := by decide +kernel
theorem d_Model_runs_22 : decode b_Model_runs 22 = .ok (.putfield 590, 3) := by decide +kernel
theorem d_Model_runs_25 : decode b_Model_runs 25 = .ok (.ldc2_w 7, 3) := by decide +kernel
theorem d_Model_runs_28 : decode b_Model_runs 28 = .ok (.lstore 6, 2) := by decide +kernel
theorem d_Model_runs_30 : decode b_Model_runs 30 = .ok (.aload_n 0, 1) := by decide +kernel
theorem d_Model_runs_31 : decode b_Model_runs 31 = .ok (.getfield 559, 3) := by decide +kernel
theorem d_Model_runs_34 : decode b_Model_runs 34 = .ok (.ifCond .ne 82, 3) := by decide +kernel
theorem d_Model_runs_37 : decode b_Model_runs 37 = .ok (.aload_n 0, 1) := by decide +kernel
theorem d_Model_runs_38 : decode b_Model_runs 38 = .ok (.getfield 590, 3) := by decide +kernel
theorem d_Model_runs_41 : decode b_Model_runs 41 = .ok (.aload_n 0, 1) := by decide +kernel
theorem d_Model_runs_42 : decode b_Model_runs 42 = .ok (.getfield 47, 3) := by decide +kernel
theorem d_Model_runs_45 : decode b_Model_runs 45 = .ok (.aload_n 0, 1) := by decide +kernel
theorem d_Model_runs_46 : decode b_Model_runs 46 = .ok (.getfield 587, 3) := by decide +kernel
theorem d_Model_runs_49 : decode b_Model_runs 49 = .ok (.iaload, 1) := by decide +kernel
theorem d_Model_runs_50 : decode b_Model_runs 50 = .ok (.if_icmp .ge 66, 3) := by decide +kernel
theorem d_Model_runs_53 : decode b_Model_runs 53 = .ok (.aload_n 0, 1) := by decide +kernel
theorem d_Model_runs_54 : decode b_Model_runs 54 = .ok (.iconst 0, 1) := by decide +kernel
theorem d_Model_runs_55 : decode b_Model_runs 55 = .ok (.invokevirtual 593, 3) := by decide +kernel
theorem d_Model_runs_58 : decode b_Model_runs 58 = .ok (.lstore 8, 2) := by decide +kernel
theorem d_Model_runs_60 : decode b_Model_runs 60 = .ok (.aload_n 0, 1) := by decide +kernel
theorem d_Model_runs_61 : decode b_Model_runs 61 = .ok (.getfield 559, 3) := by decide +kernel
theorem d_Model_runs_64 : decode b_Model_runs 64 = .ok (.ifCond .ne (-34), 3) := by decide +kernel
theorem d_Model_runs_67 : decode b_Model_runs 67 = .ok (.lload 8, 2) := by decide +kernel
theorem d_Model_runs_69 : decode b_Model_runs 69 = .ok (.ldc2_w 7, 3) := by decide +kernel
theorem d_Model_runs_72 : decode b_Model_runs 72 = .ok (.lcmp, 1) := by decide +kernel
theorem d_Model_runs_73 : decode b_Model_runs 73 = .ok (.ifCond .ne 6, 3) := by decide +kernel
theorem d_Model_runs_76 : decode b_Model_runs 76 = .ok (.goto (-46), 3) := by decide +kernel
theorem d_Model_runs_79 : decode b_Model_runs 79 = .ok (.iload_n 3, 1) := by decide +kernel
theorem d_Model_runs_80 : decode b_Model_runs 80 = .ok (.ifCond .eq 26, 3) := by decide +kernel
theorem d_Model_runs_83 : decode b_Model_runs 83 = .ok (.aload_n 0, 1) := by decide +kernel
theorem d_Model_runs_84 : decode b_Model_runs 84 = .ok (.getfield 590, 3) := by decide +kernel
theorem d_Model_runs_87 : decode b_Model_runs 87 = .ok (.aload_n 0, 1) := by decide +kernel
theorem d_Model_runs_88 : decode b_Model_runs 88 = .ok (.getfield 47, 3) := by decide +kernel
theorem d_Model_runs_91 : decode b_Model_runs 91 = .ok (.aload_n 0, 1) := by decide +kernel
theorem d_Model_runs_92 : decode b_Model_runs 92 = .ok (.getfield 587, 3) := by decide +kernel
theorem d_Model_runs_95 : decode b_Model_runs 95 = .ok (.iaload, 1) := by decide +kernel
theorem d_Model_runs_96 : decode b_Model_runs 96 = .ok (.if_icmp .ne 10, 3) := by decide +kernel
theorem d_Model_runs_99 : decode b_Model_runs 99 = .ok (.lload 8, 2) := by decide +kernel
theorem d_Model_runs_101 : decode b_Model_runs 101 = .ok (.lstore 6, 2) := by decide +kernel
theorem d_Model_runs_103 : decode b_Model_runs 103 = .ok (.goto 10, 3) := by decide +kernel
theorem d_Model_runs_106 : decode b_Model_runs 106 = .ok (.aload_n 0, 1) := by decide +kernel
theorem d_Model_runs_107 : decode b_Model_runs 107 = .ok (.iconst 5, 1) := by decide +kernel
theorem d_Model_runs_108 : decode b_Model_runs 108 = .ok (.invokevirtual 596, 3) := by decide +kernel
theorem d_Model_runs_111 : decode b_Model_runs 111 = .ok (.lstore 8, 2) := by decide +kernel
theorem d_Model_runs_113 : decode b_Model_runs 113 = .ok (.goto (-83), 3) := by decide +kernel
theorem d_Model_runs_116 : decode b_Model_runs 116 = .ok (.aload_n 0, 1) := by decide +kernel
theorem d_Model_runs_117 : decode b_Model_runs 117 = .ok (.getfield 559, 3) := by decide +kernel
theorem d_Model_runs_120 : decode b_Model_runs 120 = .ok (.iconst 1, 1) := by decide +kernel
theorem d_Model_runs_121 : decode b_Model_runs 121 = .ok (.if_icmp .ne 7, 3) := by decide +kernel
theorem d_Model_runs_124 : decode b_Model_runs 124 = .ok (.ldc2_w 7, 3) := by decide +kernel
theorem d_Model_runs_127 : decode b_Model_runs 127 = .ok (.lreturn, 1) := by decide +kernel
theorem d_Model_runs_128 : decode b_Model_runs 128 = .ok (.aload_n 0, 1) := by decide +kernel
theorem d_Model_runs_129 : decode b_Model_runs 129 = .ok (.iload 4, 2) := by decide +kernel
theorem d_Model_runs_131 : decode b_Model_runs 131 = .ok (.putfield 587, 3) := by decide +kernel
theorem d_Model_runs_134 : decode b_Model_runs 134 = .ok (.aload_n 0, 1) := by decide +kernel
theorem d_Model_runs_135 : decode b_Model_runs 135 = .ok (.iload 5, 2) := by decide +kernel
theorem d_Model_runs_137 : decode b_Model_runs 137 = .ok (.putfield 590, 3) := by decide +kernel
theorem d_Model_runs_140 : decode b_Model_runs 140 = .ok (.aload_n 0, 1) := by decide +kernel
theorem d_Model_runs_141 : decode b_Model_runs 141 = .ok (.getfield 559, 3) := by decide +kernel
theorem d_Model_runs_144 : decode b_Model_runs 144 = .ok (.ifCond .ne 8, 3) := by decide +kernel
theorem d_Model_runs_147 : decode b_Model_runs 147 = .ok (.lload 6, 2) := by decide +kernel
theorem d_Model_runs_149 : decode b_Model_runs 149 = .ok (.goto 6, 3) := by decide +kernel
theorem d_Model_runs_152 : decode b_Model_runs 152 = .ok (.ldc2_w 7, 3) := by decide +kernel
theorem d_Model_runs_155 : decode b_Model_runs 155 = .ok (.lreturn, 1) := by decide +kernel
theorem d_Model_applied_0 : decode b_Model_applied 0 = .ok (.aload_n 0, 1) := by decide +kernel
theorem d_Model_applied_1 : decode b_Model_applied 1 = .ok (.iload_n 2, 1) := by decide +kernel
theorem d_Model_applied_2 : decode b_Model_applied 2 = .ok (.iload_n 1, 1) := by decide +kernel
theorem d_Model_applied_3 : decode b_Model_applied 3 = .ok (.invokestatic 706, 3) := by decide +kernel
theorem d_Model_applied_6 : decode b_Model_applied 6 = .ok (.invokevirtual 710, 3) := by decide +kernel
theorem d_Model_applied_9 : decode b_Model_applied 9 = .ok (.ifCond .ne 7, 3) := by decide +kernel
theorem d_Model_applied_12 : decode b_Model_applied 12 = .ok (.ldc2_w 7, 3) := by decide +kernel
theorem d_Model_applied_15 : decode b_Model_applied 15 = .ok (.lreturn, 1) := by decide +kernel
theorem d_Model_applied_16 : decode b_Model_applied 16 = .ok (.aload_n 0, 1) := by decide +kernel
theorem d_Model_applied_17 : decode b_Model_applied 17 = .ok (.getfield 301, 3) := by decide +kernel
theorem d_Model_applied_20 : decode b_Model_applied 20 = .ok (.iload_n 2, 1) := by decide +kernel
theorem d_Model_applied_21 : decode b_Model_applied 21 = .ok (.laload, 1) := by decide +kernel
theorem d_Model_applied_22 : decode b_Model_applied 22 = .ok (.lstore_n 3, 1) := by decide +kernel
theorem d_Model_applied_23 : decode b_Model_applied 23 = .ok (.aload_n 0, 1) := by decide +kernel
theorem d_Model_applied_24 : decode b_Model_applied 24 = .ok (.getfield 301, 3) := by decide +kernel
theorem d_Model_applied_27 : decode b_Model_applied 27 = .ok (.iload_n 2, 1) := by decide +kernel
theorem d_Model_applied_28 : decode b_Model_applied 28 = .ok (.iconst 1, 1) := by decide +kernel
theorem d_Model_applied_29 : decode b_Model_applied 29 = .ok (.iadd, 1) := by decide +kernel
theorem d_Model_applied_30 : decode b_Model_applied 30 = .ok (.laload, 1) := by decide +kernel
theorem d_Model_applied_31 : decode b_Model_applied 31 = .ok (.lstore 5, 2) := by decide +kernel
theorem d_Model_applied_33 : decode b_Model_applied 33 = .ok (.iload_n 1, 1) := by decide +kernel
theorem d_Model_applied_34 : decode b_Model_applied 34 = .ok (.bipush 18, 2) := by decide +kernel
theorem d_Model_applied_36 : decode b_Model_applied 36 = .ok (.if_icmp .gt 18, 3) := by decide +kernel
theorem d_Model_applied_39 : decode b_Model_applied 39 = .ok (.aload_n 0, 1) := by decide +kernel
theorem d_Model_applied_40 : decode b_Model_applied 40 = .ok (.iload_n 1, 1) := by decide +kernel
theorem d_Model_applied_41 : decode b_Model_applied 41 = .ok (.lload_n 3, 1) := by decide +kernel
theorem d_Model_applied_42 : decode b_Model_applied 42 = .ok (.invokestatic 64, 3) := by decide +kernel
theorem d_Model_applied_45 : decode b_Model_applied 45 = .ok (.lload 5, 2) := by decide +kernel
theorem d_Model_applied_47 : decode b_Model_applied 47 = .ok (.invokestatic 64, 3) := by decide +kernel
theorem d_Model_applied_50 : decode b_Model_applied 50 = .ok (.invokevirtual 713, 3) := by decide +kernel
theorem d_Model_applied_53 : decode b_Model_applied 53 = .ok (.lreturn, 1) := by decide +kernel
theorem d_Model_applied_54 : decode b_Model_applied 54 = .ok (.iload_n 1, 1) := by decide +kernel
theorem d_Model_applied_55 : decode b_Model_applied 55 = .ok (.bipush 31, 2) := by decide +kernel
theorem d_Model_applied_57 : decode b_Model_applied 57 = .ok (.if_icmp .gt 134, 3) := by decide +kernel
theorem d_Model_applied_60 : decode b_Model_applied 60 = .ok (.iload_n 1, 1) := by decide +kernel
theorem d_Model_applied_61 : decode b_Model_applied 61 = .ok (.bipush 31, 2) := by decide +kernel
theorem d_Model_applied_63 : decode b_Model_applied 63 = .ok (.if_icmp .ne 17, 3) := by decide +kernel
theorem d_Model_applied_66 : decode b_Model_applied 66 = .ok (.aload_n 0, 1) := by decide +kernel
theorem d_Model_applied_67 : decode b_Model_applied 67 = .ok (.aload_n 0, 1) := by decide +kernel
theorem d_Model_applied_68 : decode b_Model_applied 68 = .ok (.lload_n 3, 1) := by decide +kernel
theorem d_Model_applied_69 : decode b_Model_applied 69 = .ok (.lload 5, 2) := by decide +kernel
theorem d_Model_applied_71 : decode b_Model_applied 71 = .ok (.invokevirtual 717, 3) := by decide +kernel
theorem d_Model_applied_74 : decode b_Model_applied 74 = .ok (.invokevirtual 721, 3) := by decide +kernel
theorem d_Model_applied_77 : decode b_Model_applied 77 = .ok (.goto 113, 3) := by decide +kernel
theorem d_Model_applied_80 : decode b_Model_applied 80 = .ok (.iload_n 1, 1) := by decide +kernel
theorem d_Model_applied_81 : decode b_Model_applied 81 = .ok (.bipush 28, 2) := by decide +kernel
theorem d_Model_applied_83 : decode b_Model_applied 83 = .ok (.if_icmp .ne 32, 3) := by decide +kernel
theorem d_Model_applied_86 : decode b_Model_applied 86 = .ok (.aload_n 0, 1) := by decide +kernel
theorem d_Model_applied_87 : decode b_Model_applied 87 = .ok (.aload_n 0, 1) := by decide +kernel
theorem d_Model_applied_88 : decode b_Model_applied 88 = .ok (.lload_n 3, 1) := by decide +kernel
theorem d_Model_applied_89 : decode b_Model_applied 89 = .ok (.invokevirtual 662, 3) := by decide +kernel
theorem d_Model_applied_92 : decode b_Model_applied 92 = .ok (.ifCond .eq 16, 3) := by decide +kernel
theorem d_Model_applied_95 : decode b_Model_applied 95 = .ok (.aload_n 0, 1) := by decide +kernel
theorem d_Model_applied_96 : decode b_Model_applied 96 = .ok (.lload 5, 2) := by decide +kernel
theorem d_Model_applied_98 : decode b_Model_applied 98 = .ok (.invokevirtual 662, 3) := by decide +kernel
theorem d_Model_applied_101 : decode b_Model_applied 101 = .ok (.ifCond .eq 7, 3) := by decide +kernel
theorem d_Model_applied_104 : decode b_Model_applied 104 = .ok (.iconst 1, 1) := by decide +kernel
theorem d_Model_applied_105 : decode b_Model_applied 105 = .ok (.goto 4, 3) := by decide +kernel
theorem d_Model_applied_108 : decode b_Model_applied 108 = .ok (.iconst 0, 1) := by decide +kernel
theorem d_Model_applied_109 : decode b_Model_applied 109 = .ok (.invokevirtual 721, 3) := by decide +kernel
theorem d_Model_applied_112 : decode b_Model_applied 112 = .ok (.goto 78, 3) := by decide +kernel
theorem d_Model_applied_115 : decode b_Model_applied 115 = .ok (.iload_n 1, 1) := by decide +kernel
theorem d_Model_applied_116 : decode b_Model_applied 116 = .ok (.bipush 29, 2) := by decide +kernel
theorem d_Model_applied_118 : decode b_Model_applied 118 = .ok (.if_icmp .ne 32, 3) := by decide +kernel
theorem d_Model_applied_121 : decode b_Model_applied 121 = .ok (.aload_n 0, 1) := by decide +kernel
theorem d_Model_applied_122 : decode b_Model_applied 122 = .ok (.aload_n 0, 1) := by decide +kernel
theorem d_Model_applied_123 : decode b_Model_applied 123 = .ok (.lload_n 3, 1) := by decide +kernel
theorem d_Model_applied_124 : decode b_Model_applied 124 = .ok (.invokevirtual 662, 3) := by decide +kernel
theorem d_Model_applied_127 : decode b_Model_applied 127 = .ok (.ifCond .ne 12, 3) := by decide +kernel
theorem d_Model_applied_130 : decode b_Model_applied 130 = .ok (.aload_n 0, 1) := by decide +kernel
theorem d_Model_applied_131 : decode b_Model_applied 131 = .ok (.lload 5, 2) := by decide +kernel
theorem d_Model_applied_133 : decode b_Model_applied 133 = .ok (.invokevirtual 662, 3) := by decide +kernel
theorem d_Model_applied_136 : decode b_Model_applied 136 = .ok (.ifCond .eq 7, 3) := by decide +kernel
theorem d_Model_applied_139 : decode b_Model_applied 139 = .ok (.iconst 1, 1) := by decide +kernel
theorem d_Model_applied_140 : decode b_Model_applied 140 = .ok (.goto 4, 3) := by decide +kernel
theorem d_Model_applied_143 : decode b_Model_applied 143 = .ok (.iconst 0, 1) := by decide +kernel
theorem d_Model_applied_144 : decode b_Model_applied 144 = .ok (.invokevirtual 721, 3) := by decide +kernel
theorem d_Model_applied_147 : decode b_Model_applied 147 = .ok (.goto 43, 3) := by decide +kernel
theorem d_Model_applied_150 : decode b_Model_applied 150 = .ok (.iload_n 1, 1) := by decide +kernel
theorem d_Model_applied_151 : decode b_Model_applied 151 = .ok (.bipush 30, 2) := by decide +kernel
theorem d_Model_applied_153 : decode b_Model_applied 153 = .ok (.if_icmp .ne 23, 3) := by decide +kernel
theorem d_Model_applied_156 : decode b_Model_applied 156 = .ok (.aload_n 0, 1) := by decide +kernel
theorem d_Model_applied_157 : decode b_Model_applied 157 = .ok (.aload_n 0, 1) := by decide +kernel
theorem d_Model_applied_158 : decode b_Model_applied 158 = .ok (.lload_n 3, 1) := by decide +kernel
theorem d_Model_applied_159 : decode b_Model_applied 159 = .ok (.invokevirtual 662, 3) := by decide +kernel
theorem d_Model_applied_162 : decode b_Model_applied 162 = .ok (.ifCond .ne 7, 3) := by decide +kernel
theorem d_Model_applied_165 : decode b_Model_applied 165 = .ok (.iconst 1, 1) := by decide +kernel
theorem d_Model_applied_166 : decode b_Model_applied 166 = .ok (.goto 4, 3) := by decide +kernel
theorem d_Model_applied_169 : decode b_Model_applied 169 = .ok (.iconst 0, 1) := by decide +kernel
theorem d_Model_applied_170 : decode b_Model_applied 170 = .ok (.invokevirtual 721, 3) := by decide +kernel
theorem d_Model_applied_173 : decode b_Model_applied 173 = .ok (.goto 17, 3) := by decide +kernel
theorem d_Model_applied_176 : decode b_Model_applied 176 = .ok (.aload_n 0, 1) := by decide +kernel
theorem d_Model_applied_177 : decode b_Model_applied 177 = .ok (.iload_n 1, 1) := by decide +kernel
theorem d_Model_applied_178 : decode b_Model_applied 178 = .ok (.lload_n 3, 1) := by decide +kernel
theorem d_Model_applied_179 : decode b_Model_applied 179 = .ok (.invokestatic 64, 3) := by decide +kernel
theorem d_Model_applied_182 : decode b_Model_applied 182 = .ok (.lload 5, 2) := by decide +kernel
theorem d_Model_applied_184 : decode b_Model_applied 184 = .ok (.invokestatic 64, 3) := by decide +kernel
theorem d_Model_applied_187 : decode b_Model_applied 187 = .ok (.invokevirtual 725, 3) := by decide +kernel
theorem d_Model_applied_190 : decode b_Model_applied 190 = .ok (.lreturn, 1) := by decide +kernel
theorem d_Model_applied_191 : decode b_Model_applied 191 = .ok (.iload_n 1, 1) := by decide +kernel
theorem d_Model_applied_192 : decode b_Model_applied 192 = .ok (.bipush 48, 2) := by decide +kernel
theorem d_Model_applied_194 : decode b_Model_applied 194 = .ok (.if_icmp .gt 12, 3) := by decide +kernel
theorem d_Model_applied_197 : decode b_Model_applied 197 = .ok (.aload_n 0, 1) := by decide +kernel
theorem d_Model_applied_198 : decode b_Model_applied 198 = .ok (.iload_n 1, 1) := by decide +kernel
theorem d_Model_applied_199 : decode b_Model_applied 199 = .ok (.lload_n 3, 1) := by decide +kernel
theorem d_Model_applied_200 : decode b_Model_applied 200 = .ok (.lload 5, 2) := by decide +kernel
theorem d_Model_applied_202 : decode b_Model_applied 202 = .ok (.invokevirtual 728, 3) := by decide +kernel
theorem d_Model_applied_205 : decode b_Model_applied 205 = .ok (.lreturn, 1) := by decide +kernel
theorem d_Model_applied_206 : decode b_Model_applied 206 = .ok (.iload_n 1, 1) := by decide +kernel
theorem d_Model_applied_207 : decode b_Model_applied 207 = .ok (.bipush 55, 2) := by decide +kernel
theorem d_Model_applied_209 : decode b_Model_applied 209 = .ok (.if_icmp .gt 14, 3) := by decide +kernel
theorem d_Model_applied_212 : decode b_Model_applied 212 = .ok (.aload_n 0, 1) := by decide +kernel
theorem d_Model_applied_213 : decode b_Model_applied 213 = .ok (.iload_n 1, 1) := by decide +kernel
theorem d_Model_applied_214 : decode b_Model_applied 214 = .ok (.lload_n 3, 1) := by decide +kernel
theorem d_Model_applied_215 : decode b_Model_applied 215 = .ok (.lload 5, 2) := by decide +kernel
theorem d_Model_applied_217 : decode b_Model_applied 217 = .ok (.invokevirtual 731, 3) := by decide +kernel
theorem d_Model_applied_220 : decode b_Model_applied 220 = .ok (.goto 19, 3) := by decide +kernel
theorem d_Model_applied_223 : decode b_Model_applied 223 = .ok (.aload_n 0, 1) := by decide +kernel
theorem d_Model_applied_224 : decode b_Model_applied 224 = .ok (.iload_n 1, 1) := by decide +kernel
theorem d_Model_applied_225 : decode b_Model_applied 225 = .ok (.lload_n 3, 1) := by decide +kernel
theorem d_Model_applied_226 : decode b_Model_applied 226 = .ok (.lload 5, 2) := by decide +kernel
theorem d_Model_applied_228 : decode b_Model_applied 228 = .ok (.aload_n 0, 1) := by decide +kernel
theorem d_Model_applied_229 : decode b_Model_applied 229 = .ok (.getfield 301, 3) := by decide +kernel
theorem d_Model_applied_232 : decode b_Model_applied 232 = .ok (.iload_n 2, 1) := by decide +kernel
theorem d_Model_applied_233 : decode b_Model_applied 233 = .ok (.iconst 2, 1) := by decide +kernel
theorem d_Model_applied_234 : decode b_Model_applied 234 = .ok (.iadd, 1) := by decide +kernel
theorem d_Model_applied_235 : decode b_Model_applied 235 = .ok (.laload, 1) := by decide +kernel
theorem d_Model_applied_236 : decode b_Model_applied 236 = .ok (.invokevirtual 734, 3) := by decide +kernel
theorem d_Model_applied_239 : decode b_Model_applied 239 = .ok (.lreturn, 1) := by decide +kernel
theorem lk_Model_706 : Cond.methodLink "TurtleWorldModel" 706 ⟨"TurtleWorldModel", "kinds", "(I)Ljava/lang/String;"⟩ ∈ tw_T := tw_i10 217 (by decide +kernel) (by decide +kernel)
theorem hd_Model_kinds : y_Model_kinds.cls ≠ "java/lang/invoke/MethodHandle" ∧ y_Model_kinds.cls ≠ "java/lang/invoke/VarHandle" ∧ (parseMethodDescriptor y_Model_kinds.desc).map (fun d => d.parameters.length) = some 1 := by decide +kernel
theorem st_Model_kinds : Cond.static ⟨"TurtleWorldModel", "kinds", "(I)Ljava/lang/String;"⟩ ∈ tw_T := tw_i10 218 (by decide +kernel) (by decide +kernel)
theorem lk_Model_710 : Cond.methodLink "TurtleWorldModel" 710 ⟨"TurtleWorldModel", "fits", "(ILjava/lang/String;)Z"⟩ ∈ tw_T := tw_i10 237 (by decide +kernel) (by decide +kernel)
theorem hd_Model_fits : y_Model_fits.cls ≠ "java/lang/invoke/MethodHandle" ∧ y_Model_fits.cls ≠ "java/lang/invoke/VarHandle" ∧ (parseMethodDescriptor y_Model_fits.desc).map (fun d => d.parameters.length) = some 2 := by decide +kernel
theorem in_Model_fits : Cond.instanceMethod ⟨"TurtleWorldModel", "fits", "(ILjava/lang/String;)Z"⟩ ∈ tw_T := tw_i10 239 (by decide +kernel) (by decide +kernel)
theorem sel_Model_fits : Cond.selects "TurtleWorldModel" ⟨"TurtleWorldModel", "fits", "(ILjava/lang/String;)Z"⟩ ⟨"TurtleWorldModel", "fits", "(ILjava/lang/String;)Z"⟩ ∈ tw_T := tw_inS 130 (by decide +kernel) (by decide +kernel)
theorem lk_Model_734 : Cond.methodLink "TurtleWorldModel" 734 ⟨"TurtleWorldModel", "running", "(IJJJ)J"⟩ ∈ tw_T := tw_i11 130 (by decide +kernel) (by decide +kernel)
theorem hd_Model_running : y_Model_running.cls ≠ "java/lang/invoke/MethodHandle" ∧ y_Model_running.cls ≠ "java/lang/invoke/VarHandle" ∧ (parseMethodDescriptor y_Model_running.desc).map (fun d => d.parameters.length) = some 4 := by decide +kernel
theorem in_Model_running : Cond.instanceMethod ⟨"TurtleWorldModel", "running", "(IJJJ)J"⟩ ∈ tw_T := tw_i11 132 (by decide +kernel) (by decide +kernel)
theorem sel_Model_running : Cond.selects "TurtleWorldModel" ⟨"TurtleWorldModel", "running", "(IJJJ)J"⟩ ⟨"TurtleWorldModel", "running", "(IJJJ)J"⟩ ∈ tw_T := tw_inS 155 (by decide +kernel) (by decide +kernel)
theorem lk_Model_731 : Cond.methodLink "TurtleWorldModel" 731 ⟨"TurtleWorldModel", "named", "(IJJ)J"⟩ ∈ tw_T := tw_i11 114 (by decide +kernel) (by decide +kernel)
theorem hd_Model_named : y_Model_named.cls ≠ "java/lang/invoke/MethodHandle" ∧ y_Model_named.cls ≠ "java/lang/invoke/VarHandle" ∧ (parseMethodDescriptor y_Model_named.desc).map (fun d => d.parameters.length) = some 3 := by decide +kernel
theorem in_Model_named : Cond.instanceMethod ⟨"TurtleWorldModel", "named", "(IJJ)J"⟩ ∈ tw_T := tw_i11 116 (by decide +kernel) (by decide +kernel)
theorem sel_Model_named : Cond.selects "TurtleWorldModel" ⟨"TurtleWorldModel", "named", "(IJJ)J"⟩ ⟨"TurtleWorldModel", "named", "(IJJ)J"⟩ ∈ tw_T := tw_inS 151 (by decide +kernel) (by decide +kernel)
theorem lk_Model_728 : Cond.methodLink "TurtleWorldModel" 728 ⟨"TurtleWorldModel", "values", "(IJJ)J"⟩ ∈ tw_T := tw_i11 75 (by decide +kernel) (by decide +kernel)
theorem hd_Model_values : y_Model_values.cls ≠ "java/lang/invoke/MethodHandle" ∧ y_Model_values.cls ≠ "java/lang/invoke/VarHandle" ∧ (parseMethodDescriptor y_Model_values.desc).map (fun d => d.parameters.length) = some 3 := by decide +kernel
theorem in_Model_values : Cond.instanceMethod ⟨"TurtleWorldModel", "values", "(IJJ)J"⟩ ∈ tw_T := tw_i11 77 (by decide +kernel) (by decide +kernel)
theorem sel_Model_values : Cond.selects "TurtleWorldModel" ⟨"TurtleWorldModel", "values", "(IJJ)J"⟩ ⟨"TurtleWorldModel", "values", "(IJJ)J"⟩ ∈ tw_T := tw_inS 142 (by decide +kernel) (by decide +kernel)
theorem lk_Model_662 : Cond.methodLink "TurtleWorldModel" 662 ⟨"TurtleWorldModel", "isTrue", "(J)Z"⟩ ∈ tw_T := tw_i11 65 (by decide +kernel) (by decide +kernel)
theorem hd_Model_isTrue : y_Model_isTrue.cls ≠ "java/lang/invoke/MethodHandle" ∧ y_Model_isTrue.cls ≠ "java/lang/invoke/VarHandle" ∧ (parseMethodDescriptor y_Model_isTrue.desc).map (fun d => d.parameters.length) = some 1 := by decide +kernel
theorem in_Model_isTrue : Cond.instanceMethod ⟨"TurtleWorldModel", "isTrue", "(J)Z"⟩ ∈ tw_T := tw_i11 67 (by decide +kernel) (by decide +kernel)
theorem sel_Model_isTrue : Cond.selects "TurtleWorldModel" ⟨"TurtleWorldModel", "isTrue", "(J)Z"⟩ ⟨"TurtleWorldModel", "isTrue", "(J)Z"⟩ ∈ tw_T := tw_inS 140 (by decide +kernel) (by decide +kernel)
theorem lk_Model_713 : Cond.methodLink "TurtleWorldModel" 713 ⟨"TurtleWorldModel", "turtles", "(III)J"⟩ ∈ tw_T := tw_i11 8 (by decide +kernel) (by decide +kernel)
theorem hd_Model_turtles : y_Model_turtles.cls ≠ "java/lang/invoke/MethodHandle" ∧ y_Model_turtles.cls ≠ "java/lang/invoke/VarHandle" ∧ (parseMethodDescriptor y_Model_turtles.desc).map (fun d => d.parameters.length) = some 3 := by decide +kernel
theorem in_Model_turtles : Cond.instanceMethod ⟨"TurtleWorldModel", "turtles", "(III)J"⟩ ∈ tw_T := tw_i11 10 (by decide +kernel) (by decide +kernel)
theorem sel_Model_turtles : Cond.selects "TurtleWorldModel" ⟨"TurtleWorldModel", "turtles", "(III)J"⟩ ⟨"TurtleWorldModel", "turtles", "(III)J"⟩ ∈ tw_T := tw_inS 132 (by decide +kernel) (by decide +kernel)
theorem d_Model_running_0 : decode b_Model_running 0 = .ok (.iload_n 1, 1) := by decide +kernel
theorem d_Model_running_1 : decode b_Model_running 1 = .ok (.tableswitch 390 56 70 #[75, 95, 124, 158, 169, 213, 221, 240, 221, 285, 309, 318, 346, 367, 373], 75) := by decide +kernel
theorem d_Model_running_76 : decode b_Model_running 76 = .ok (.aload_n 0, 1) := by decide +kernel
theorem d_Model_running_77 : decode b_Model_running 77 = .ok (.invokevirtual 646, 3) := by decide +kernel
theorem d_Model_running_80 : decode b_Model_running 80 = .ok (.ifCond .eq 12, 3) := by decide +kernel
theorem d_Model_running_83 : decode b_Model_running 83 = .ok (.aload_n 0, 1) := by decide +kernel
theorem d_Model_running_84 : decode b_Model_running 84 = .ok (.lload_n 2, 1) := by decide +kernel
theorem d_Model_running_85 : decode b_Model_running 85 = .ok (.iconst 1, 1) := by decide +kernel
theorem d_Model_running_86 : decode b_Model_running 86 = .ok (.invokevirtual 649, 3) := by decide +kernel
theorem d_Model_running_89 : decode b_Model_running 89 = .ok (.goto 6, 3) := by decide +kernel
theorem d_Model_running_92 : decode b_Model_running 92 = .ok (.ldc2_w 7, 3) := by decide +kernel
theorem d_Model_running_95 : decode b_Model_running 95 = .ok (.lreturn, 1) := by decide +kernel
theorem d_Model_running_96 : decode b_Model_running 96 = .ok (.aload_n 0, 1) := by decide +kernel
theorem d_Model_running_97 : decode b_Model_running 97 = .ok (.lload_n 2, 1) := by decide +kernel
theorem d_Model_running_98 : decode b_Model_running 98 = .ok (.invokevirtual 662, 3) := by decide +kernel
theorem d_Model_running_101 : decode b_Model_running 101 = .ok (.ifCond .eq 20, 3) := by decide +kernel
theorem d_Model_running_104 : decode b_Model_running 104 = .ok (.aload_n 0, 1) := by decide +kernel
theorem d_Model_running_105 : decode b_Model_running 105 = .ok (.invokevirtual 646, 3) := by decide +kernel
theorem d_Model_running_108 : decode b_Model_running 108 = .ok (.ifCond .eq 13, 3) := by decide +kernel
theorem d_Model_running_111 : decode b_Model_running 111 = .ok (.aload_n 0, 1) := by decide +kernel
theorem d_Model_running_112 : decode b_Model_running 112 = .ok (.lload 4, 2) := by decide +kernel
theorem d_Model_running_114 : decode b_Model_running 114 = .ok (.iconst 0, 1) := by decide +kernel
theorem d_Model_running_115 : decode b_Model_running 115 = .ok (.invokevirtual 649, 3) := by decide +kernel
theorem d_Model_running_118 : decode b_Model_running 118 = .ok (.goto 6, 3) := by decide +kernel
theorem d_Model_running_121 : decode b_Model_running 121 = .ok (.ldc2_w 7, 3) := by decide +kernel
theorem d_Model_running_124 : decode b_Model_running 124 = .ok (.lreturn, 1) := by decide +kernel
theorem d_Model_running_125 : decode b_Model_running 125 = .ok (.aload_n 0, 1) := by decide +kernel
theorem d_Model_running_126 : decode b_Model_running 126 = .ok (.invokevirtual 646, 3) := by decide +kernel
theorem d_Model_running_129 : decode b_Model_running 129 = .ok (.ifCond .eq 26, 3) := by decide +kernel
theorem d_Model_running_132 : decode b_Model_running 132 = .ok (.aload_n 0, 1) := by decide +kernel
theorem d_Model_running_133 : decode b_Model_running 133 = .ok (.aload_n 0, 1) := by decide +kernel
theorem d_Model_running_134 : decode b_Model_running 134 = .ok (.lload_n 2, 1) := by decide +kernel
theorem d_Model_running_135 : decode b_Model_running 135 = .ok (.invokevirtual 662, 3) := by decide +kernel
theorem d_Model_running_138 : decode b_Model_running 138 = .ok (.ifCond .eq 8, 3) := by decide +kernel
theorem d_Model_running_141 : decode b_Model_running 141 = .ok (.lload 4, 2) := by decide +kernel
theorem d_Model_running_143 : decode b_Model_running 143 = .ok (.goto 5, 3) := by decide +kernel
theorem d_Model_running_146 : decode b_Model_running 146 = .ok (.lload 6, 2) := by decide +kernel
theorem d_Model_running_148 : decode b_Model_running 148 = .ok (.iconst 1, 1) := by decide +kernel
theorem d_Model_running_149 : decode b_Model_running 149 = .ok (.invokevirtual 649, 3) := by decide +kernel
theorem d_Model_running_152 : decode b_Model_running 152 = .ok (.goto 6, 3) := by decide +kernel
theorem d_Model_running_155 : decode b_Model_running 155 = .ok (.ldc2_w 7, 3) := by decide +kernel
theorem d_Model_running_158 : decode b_Model_running 158 = .ok (.lreturn, 1) := by decide +kernel
theorem d_Model_running_159 : decode b_Model_running 159 = .ok (.aload_n 0, 1) := by decide +kernel
theorem d_Model_running_160 : decode b_Model_running 160 = .ok (.lload_n 2, 1) := by decide +kernel
theorem d_Model_running_161 : decode b_Model_running 161 = .ok (.invokestatic 64, 3) := by decide +kernel
theorem d_Model_running_164 : decode b_Model_running 164 = .ok (.lload 4, 2) := by decide +kernel
theorem d_Model_running_166 : decode b_Model_running 166 = .ok (.invokevirtual 763, 3) := by decide +kernel
theorem d_Model_running_169 : decode b_Model_running 169 = .ok (.lreturn, 1) := by decide +kernel
theorem d_Model_running_170 : decode b_Model_running 170 = .ok (.aload_n 0, 1) := by decide +kernel
theorem d_Model_running_171 : decode b_Model_running 171 = .ok (.getfield 565, 3) := by decide +kernel
theorem d_Model_running_174 : decode b_Model_running 174 = .ok (.ifCond .le 35, 3) := by decide +kernel
theorem d_Model_running_177 : decode b_Model_running 177 = .ok (.aload_n 0, 1) := by decide +kernel
theorem d_Model_running_178 : decode b_Model_running 178 = .ok (.getfield 319, 3) := by decide +kernel
theorem d_Model_running_181 : decode b_Model_running 181 = .ok (.aload_n 0, 1) := by decide +kernel
theorem d_Model_running_182 : decode b_Model_running 182 = .ok (.getfield 565, 3) := by decide +kernel
theorem d_Model_running_185 : decode b_Model_running 185 = .ok (.iconst 1, 1) := by decide +kernel
theorem d_Model_running_186 : decode b_Model_running 186 = .ok (.isub, 1) := by decide +kernel
theorem d_Model_running_187 : decode b_Model_running 187 = .ok (.iaload, 1) := by decide +kernel
theorem d_Model_running_188 : decode b_Model_running 188 = .ok (.aload_n 0, 1) := by decide +kernel
theorem d_Model_running_189 : decode b_Model_running 189 = .ok (.getfield 538, 3) := by decide +kernel
theorem d_Model_running_192 : decode b_Model_running 192 = .ok (.if_icmp .ne 17, 3) := by decide +kernel
theorem d_Model_running_195 : decode b_Model_running 195 = .ok (.aload_n 0, 1) := by decide +kernel
theorem d_Model_running_196 : decode b_Model_running 196 = .ok (.getfield 316, 3) := by decide +kernel
theorem d_Model_running_199 : decode b_Model_running 199 = .ok (.aload_n 0, 1) := by decide +kernel
theorem d_Model_running_200 : decode b_Model_running 200 = .ok (.getfield 565, 3) := by decide +kernel
theorem d_Model_running_203 : decode b_Model_running 203 = .ok (.iconst 1, 1) := by decide +kernel
theorem d_Model_running_204 : decode b_Model_running 204 = .ok (.isub, 1) := by decide +kernel
theorem d_Model_running_205 : decode b_Model_running 205 = .ok (.iaload, 1) := by decide +kernel
theorem d_Model_running_206 : decode b_Model_running 206 = .ok (.goto 4, 3) := by decide +kernel
theorem d_Model_running_209 : decode b_Model_running 209 = .ok (.iconst 0, 1) := by decide +kernel
theorem d_Model_running_210 : decode b_Model_running 210 = .ok (.invokestatic 451, 3) := by decide +kernel
theorem d_Model_running_213 : decode b_Model_running 213 = .ok (.lreturn, 1) := by decide +kernel
theorem d_Model_running_214 : decode b_Model_running 214 = .ok (.aload_n 0, 1) := by decide +kernel
theorem d_Model_running_215 : decode b_Model_running 215 = .ok (.lload_n 2, 1) := by decide +kernel
theorem d_Model_running_216 : decode b_Model_running 216 = .ok (.lload 4, 2) := by decide +kernel
theorem d_Model_running_218 : decode b_Model_running 218 = .ok (.invokevirtual 766, 3) := by decide +kernel
theorem d_Model_running_221 : decode b_Model_running 221 = .ok (.lreturn, 1) := by decide +kernel
theorem d_Model_running_222 : decode b_Model_running 222 = .ok (.aload_n 0, 1) := by decide +kernel
theorem d_Model_running_223 : decode b_Model_running 223 = .ok (.lload_n 2, 1) := by decide +kernel
theorem d_Model_running_224 : decode b_Model_running 224 = .ok (.lload 4, 2) := by decide +kernel
theorem d_Model_running_226 : decode b_Model_running 226 = .ok (.iload_n 1, 1) := by decide +kernel
theorem d_Model_running_227 : decode b_Model_running 227 = .ok (.bipush 64, 2) := by decide +kernel
theorem d_Model_running_229 : decode b_Model_running 229 = .ok (.if_icmp .ne 7, 3) := by decide +kernel
theorem d_Model_running_232 : decode b_Model_running 232 = .ok (.iconst 1, 1) := by decide +kernel
theorem d_Model_running_233 : decode b_Model_running 233 = .ok (.goto 4, 3) := by decide +kernel
theorem d_Model_running_236 : decode b_Model_running 236 = .ok (.iconst 0, 1) := by decide +kernel
theorem d_Model_running_237 : decode b_Model_running 237 = .ok (.invokevirtual 769, 3) := by decide +kernel
theorem d_Model_running_240 : decode b_Model_running 240 = .ok (.lreturn, 1) := by decide +kernel
theorem d_Model_running_241 : decode b_Model_running 241 = .ok (.aload_n 0, 1) := by decide +kernel
theorem d_Model_running_242 : decode b_Model_running 242 = .ok (.getfield 568, 3) := by decide +kernel
theorem d_Model_running_245 : decode b_Model_running 245 = .ok (.ifCond .le 35, 3) := by decide +kernel
theorem d_Model_running_248 : decode b_Model_running 248 = .ok (.aload_n 0, 1) := by decide +kernel
theorem d_Model_running_249 : decode b_Model_running 249 = .ok (.getfield 322, 3) := by decide +kernel
theorem d_Model_running_252 : decode b_Model_running 252 = .ok (.aload_n 0, 1) := by decide +kernel
theorem d_Model_running_253 : decode b_Model_running 253 = .ok (.getfield 568, 3) := by decide +kernel
theorem d_Model_running_256 : decode b_Model_running 256 = .ok (.iconst 1, 1) := by decide +kernel
theorem d_Model_running_257 : decode b_Model_running 257 = .ok (.isub, 1) := by decide +kernel
theorem d_Model_running_258 : decode b_Model_running 258 = .ok (.iaload, 1) := by decide +kernel
theorem d_Model_running_259 : decode b_Model_running 259 = .ok (.aload_n 0, 1) := by decide +kernel
theorem d_Model_running_260 : decode b_Model_running 260 = .ok (.getfield 538, 3) := by decide +kernel
theorem d_Model_running_263 : decode b_Model_running 263 = .ok (.if_icmp .ne 17, 3) := by decide +kernel
theorem d_Model_running_266 : decode b_Model_running 266 = .ok (.aload_n 0, 1) := by decide +kernel
theorem d_Model_running_267 : decode b_Model_running 267 = .ok (.getfield 325, 3) := by decide +kernel
theorem d_Model_running_270 : decode b_Model_running 270 = .ok (.aload_n 0, 1) := by decide +kernel
theorem d_Model_running_271 : decode b_Model_running 271 = .ok (.getfield 568, 3) := by decide +kernel
theorem d_Model_running_274 : decode b_Model_running 274 = .ok (.iconst 1, 1) := by decide +kernel
theorem d_Model_running_275 : decode b_Model_running 275 = .ok (.isub, 1) := by decide +kernel
theorem d_Model_running_276 : decode b_Model_running 276 = .ok (.laload, 1) := by decide +kernel
theorem d_Model_running_277 : decode b_Model_running 277 = .ok (.goto 8, 3) := by decide +kernel
theorem d_Model_running_280 : decode b_Model_running 280 = .ok (.aload_n 0, 1) := by decide +kernel
theorem d_Model_running_281 : decode b_Model_running 281 = .ok (.iconst 1, 1) := by decide +kernel
theorem d_Model_running_282 : decode b_Model_running 282 = .ok (.invokevirtual 596, 3) := by decide +kernel
theorem d_Model_running_285 : decode b_Model_running 285 = .ok (.lreturn, 1) := by decide +kernel
theorem d_Model_running_286 : decode b_Model_running 286 = .ok (.aload_n 0, 1) := by decide +kernel
theorem d_Model_running_287 : decode b_Model_running 287 = .ok (.invokevirtual 646, 3) := by decide +kernel
theorem d_Model_running_290 : decode b_Model_running 290 = .ok (.ifCond .eq 16, 3) := by decide +kernel
theorem d_Model_running_293 : decode b_Model_running 293 = .ok (.aload_n 0, 1) := by decide +kernel
theorem d_Model_running_294 : decode b_Model_running 294 = .ok (.lload_n 2, 1) := by decide +kernel
theorem d_Model_running_295 : decode b_Model_running 295 = .ok (.invokestatic 64, 3) := by decide +kernel
theorem d_Model_running_298 : decode b_Model_running 298 = .ok (.lload 4, 2) := by decide +kernel
theorem d_Model_running_300 : decode b_Model_running 300 = .ok (.invokevirtual 773, 3) := by decide +kernel
theorem d_Model_running_303 : decode b_Model_running 303 = .ok (.goto 6, 3) := by decide +kernel
theorem d_Model_running_306 : decode b_Model_running 306 = .ok (.ldc2_w 7, 3) := by decide +kernel
theorem d_Model_running_309 : decode b_Model_running 309 = .ok (.lreturn, 1) := by decide +kernel
theorem d_Model_running_310 : decode b_Model_running 310 = .ok (.aload_n 0, 1) := by decide +kernel
theorem d_Model_running_311 : decode b_Model_running 311 = .ok (.iconst 4, 1) := by decide +kernel
theorem d_Model_running_312 : decode b_Model_running 312 = .ok (.putfield 559, 3) := by decide +kernel
theorem d_Model_running_315 : decode b_Model_running 315 = .ok (.ldc2_w 7, 3) := by decide +kernel
theorem d_Model_running_318 : decode b_Model_running 318 = .ok (.lreturn, 1) := by decide +kernel
theorem d_Model_running_319 : decode b_Model_running 319 = .ok (.aload_n 0, 1) := by decide +kernel
theorem d_Model_running_320 : decode b_Model_running 320 = .ok (.getfield 538, 3) := by decide +kernel
theorem d_Model_running_323 : decode b_Model_running 323 = .ok (.ifCond .ne 10, 3) := by decide +kernel
theorem d_Model_running_326 : decode b_Model_running 326 = .ok (.aload_n 0, 1) := by decide +kernel
theorem d_Model_running_327 : decode b_Model_running 327 = .ok (.bipush 12, 2) := by decide +kernel
theorem d_Model_running_329 : decode b_Model_running 329 = .ok (.invokevirtual 596, 3) := by decide +kernel
theorem d_Model_running_332 : decode b_Model_running 332 = .ok (.lreturn, 1) := by decide +kernel
theorem d_Model_running_333 : decode b_Model_running 333 = .ok (.aload_n 0, 1) := by decide +kernel
theorem d_Model_running_334 : decode b_Model_running 334 = .ok (.lload_n 2, 1) := by decide +kernel
theorem d_Model_running_335 : decode b_Model_running 335 = .ok (.putfield 652, 3) := by decide +kernel
theorem d_Model_running_338 : decode b_Model_running 338 = .ok (.aload_n 0, 1) := by decide +kernel
theorem d_Model_running_339 : decode b_Model_running 339 = .ok (.iconst 5, 1) := by decide +kernel
theorem d_Model_running_340 : decode b_Model_running 340 = .ok (.putfield 559, 3) := by decide +kernel
theorem d_Model_running_343 : decode b_Model_running 343 = .ok (.ldc2_w 7, 3) := by decide +kernel
theorem d_Model_running_346 : decode b_Model_running 346 = .ok (.lreturn, 1) := by decide +kernel
theorem d_Model_running_347 : decode b_Model_running 347 = .ok (.aload_n 0, 1) := by decide +kernel
theorem d_Model_running_348 : decode b_Model_running 348 = .ok (.invokevirtual 646, 3) := by decide +kernel
theorem d_Model_running_351 : decode b_Model_running 351 = .ok (.ifCond .eq 13, 3) := by decide +kernel
theorem d_Model_running_354 : decode b_Model_running 354 = .ok (.aload_n 0, 1) := by decide +kernel
theorem d_Model_running_355 : decode b_Model_running 355 = .ok (.lload_n 2, 1) := by decide +kernel
theorem d_Model_running_356 : decode b_Model_running 356 = .ok (.lload 4, 2) := by decide +kernel
theorem d_Model_running_358 : decode b_Model_running 358 = .ok (.invokevirtual 776, 3) := by decide +kernel
theorem d_Model_running_361 : decode b_Model_running 361 = .ok (.goto 6, 3) := by decide +kernel
theorem d_Model_running_364 : decode b_Model_running 364 = .ok (.ldc2_w 7, 3) := by decide +kernel
theorem d_Model_running_367 : decode b_Model_running 367 = .ok (.lreturn, 1) := by decide +kernel
theorem d_Model_running_368 : decode b_Model_running 368 = .ok (.aload_n 0, 1) := by decide +kernel
theorem d_Model_running_369 : decode b_Model_running 369 = .ok (.lload_n 2, 1) := by decide +kernel
theorem d_Model_running_370 : decode b_Model_running 370 = .ok (.invokevirtual 779, 3) := by decide +kernel
theorem d_Model_running_373 : decode b_Model_running 373 = .ok (.lreturn, 1) := by decide +kernel
theorem d_Model_running_374 : decode b_Model_running 374 = .ok (.aload_n 0, 1) := by decide +kernel
theorem d_Model_running_375 : decode b_Model_running 375 = .ok (.getfield 553, 3) := by decide +kernel
theorem d_Model_running_378 : decode b_Model_running 378 = .ok (.istore 8, 2) := by decide +kernel
theorem d_Model_running_380 : decode b_Model_running 380 = .ok (.aload_n 0, 1) := by decide +kernel
theorem d_Model_running_381 : decode b_Model_running 381 = .ok (.iconst 0, 1) := by decide +kernel
theorem d_Model_running_382 : decode b_Model_running 382 = .ok (.putfield 553, 3) := by decide +kernel
theorem d_Model_running_385 : decode b_Model_running 385 = .ok (.iload 8, 2) := by decide +kernel
theorem d_Model_running_387 : decode b_Model_running 387 = .ok (.invokestatic 451, 3) := by decide +kernel
theorem d_Model_running_390 : decode b_Model_running 390 = .ok (.lreturn, 1) := by decide +kernel
theorem d_Model_running_391 : decode b_Model_running 391 = .ok (.aload_n 0, 1) := by decide +kernel
theorem d_Model_running_392 : decode b_Model_running 392 = .ok (.lload_n 2, 1) := by decide +kernel
theorem d_Model_running_393 : decode b_Model_running 393 = .ok (.iload_n 1, 1) := by decide +kernel
theorem d_Model_running_394 : decode b_Model_running 394 = .ok (.bipush 72, 2) := by decide +kernel
theorem d_Model_running_396 : decode b_Model_running 396 = .ok (.if_icmp .eq 7, 3) := by decide +kernel
theorem d_Model_running_399 : decode b_Model_running 399 = .ok (.iconst 1, 1) := by decide +kernel
theorem d_Model_running_400 : decode b_Model_running 400 = .ok (.goto 4, 3) := by decide +kernel
theorem d_Model_running_403 : decode b_Model_running 403 = .ok (.iconst 0, 1) := by decide +kernel
theorem d_Model_running_404 : decode b_Model_running 404 = .ok (.invokevirtual 782, 3) := by decide +kernel
theorem d_Model_running_407 : decode b_Model_running 407 = .ok (.iconst 0, 1) := by decide +kernel
theorem d_Model_running_408 : decode b_Model_running 408 = .ok (.istore 8, 2) := by decide +kernel
theorem d_Model_running_410 : decode b_Model_running 410 = .ok (.iload 8, 2) := by decide +kernel
theorem d_Model_running_412 : decode b_Model_running 412 = .ok (.aload_n 0, 1) := by decide +kernel
theorem d_Model_running_413 : decode b_Model_running 413 = .ok (.getfield 108, 3) := by decide +kernel
theorem d_Model_running_416 : decode b_Model_running 416 = .ok (.if_icmp .ge 20, 3) := by decide +kernel
theorem d_Model_running_419 : decode b_Model_running 419 = .ok (.aload_n 0, 1) := by decide +kernel
theorem d_Model_running_420 : decode b_Model_running 420 = .ok (.aload_n 0, 1) := by decide +kernel
theorem d_Model_running_421 : decode b_Model_running 421 = .ok (.getfield 105, 3) := by decide +kernel
theorem d_Model_running_424 : decode b_Model_running 424 = .ok (.iload 8, 2) := by decide +kernel
theorem d_Model_running_426 : decode b_Model_running 426 = .ok (.baload, 1) := by decide +kernel
theorem d_Model_running_427 : decode b_Model_running 427 = .ok (.invokevirtual 786, 3) := by decide +kernel
theorem d_Model_running_430 : decode b_Model_running 430 = .ok (.iinc 8 1, 3) := by decide +kernel
theorem d_Model_running_433 : decode b_Model_running 433 = .ok (.goto (-23), 3) := by decide +kernel
theorem d_Model_running_436 : decode b_Model_running 436 = .ok (.iload_n 1, 1) := by decide +kernel
theorem d_Model_running_437 : decode b_Model_running 437 = .ok (.bipush 73, 2) := by decide +kernel
theorem d_Model_running_439 : decode b_Model_running 439 = .ok (.if_icmp .eq 9, 3) := by decide +kernel
theorem d_Model_running_442 : decode b_Model_running 442 = .ok (.aload_n 0, 1) := by decide +kernel
theorem d_Model_running_443 : decode b_Model_running 443 = .ok (.bipush 10, 2) := by decide +kernel
theorem d_Model_running_445 : decode b_Model_running 445 = .ok (.invokevirtual 786, 3) := by decide +kernel
theorem d_Model_running_448 : decode b_Model_running 448 = .ok (.ldc2_w 7, 3) := by decide +kernel
theorem d_Model_running_451 : decode b_Model_running 451 = .ok (.lreturn, 1) := by decide +kernel
theorem lk_Model_763 : Cond.methodLink "TurtleWorldModel" 763 ⟨"TurtleWorldModel", "repeated", "(IJ)J"⟩ ∈ tw_T := tw_i11 134 (by decide +kernel) (by decide +kernel)
theorem hd_Model_repeated : y_Model_repeated.cls ≠ "java/lang/invoke/MethodHandle" ∧ y_Model_repeated.cls ≠ "java/lang/invoke/VarHandle" ∧ (parseMethodDescriptor y_Model_repeated.desc).map (fun d => d.parameters.length) = some 2 := by decide +kernel
theorem in_Model_repeated : Cond.instanceMethod ⟨"TurtleWorldModel", "repeated", "(IJ)J"⟩ ∈ tw_T := tw_i11 136 (by decide +kernel) (by decide +kernel)
theorem sel_Model_repeated : Cond.selects "TurtleWorldModel" ⟨"TurtleWorldModel", "repeated", "(IJ)J"⟩ ⟨"TurtleWorldModel", "repeated", "(IJ)J"⟩ ∈ tw_T := tw_inS 156 (by decide +kernel) (by decide +kernel)
theorem lk_Model_766 : Cond.methodLink "TurtleWorldModel" 766 ⟨"TurtleWorldModel", "whiled", "(JJ)J"⟩ ∈ tw_T := tw_i11 138 (by decide +kernel) (by decide +kernel)
theorem hd_Model_whiled : y_Model_whiled.cls ≠ "java/lang/invoke/MethodHandle" ∧ y_Model_whiled.cls ≠ "java/lang/invoke/VarHandle" ∧ (parseMethodDescriptor y_Model_whiled.desc).map (fun d => d.parameters.length) = some 2 := by decide +kernel
theorem in_Model_whiled : Cond.instanceMethod ⟨"TurtleWorldModel", "whiled", "(JJ)J"⟩ ∈ tw_T := tw_i11 140 (by decide +kernel) (by decide +kernel)
theorem sel_Model_whiled : Cond.selects "TurtleWorldModel" ⟨"TurtleWorldModel", "whiled", "(JJ)J"⟩ ⟨"TurtleWorldModel", "whiled", "(JJ)J"⟩ ∈ tw_T := tw_inS 157 (by decide +kernel) (by decide +kernel)
theorem lk_Model_769 : Cond.methodLink "TurtleWorldModel" 769 ⟨"TurtleWorldModel", "forEach", "(JJZ)J"⟩ ∈ tw_T := tw_i11 142 (by decide +kernel) (by decide +kernel)
theorem hd_Model_forEach : y_Model_forEach.cls ≠ "java/lang/invoke/MethodHandle" ∧ y_Model_forEach.cls ≠ "java/lang/invoke/VarHandle" ∧ (parseMethodDescriptor y_Model_forEach.desc).map (fun d => d.parameters.length) = some 3 := by decide +kernel
theorem in_Model_forEach : Cond.instanceMethod ⟨"TurtleWorldModel", "forEach", "(JJZ)J"⟩ ∈ tw_T := tw_i11 144 (by decide +kernel) (by decide +kernel)
theorem sel_Model_forEach : Cond.selects "TurtleWorldModel" ⟨"TurtleWorldModel", "forEach", "(JJZ)J"⟩ ⟨"TurtleWorldModel", "forEach", "(JJZ)J"⟩ ∈ tw_T := tw_inS 158 (by decide +kernel) (by decide +kernel)
theorem lk_Model_773 : Cond.methodLink "TurtleWorldModel" 773 ⟨"TurtleWorldModel", "asked", "(IJ)J"⟩ ∈ tw_T := tw_i11 146 (by decide +kernel) (by decide +kernel)
theorem hd_Model_asked : y_Model_asked.cls ≠ "java/lang/invoke/MethodHandle" ∧ y_Model_asked.cls ≠ "java/lang/invoke/VarHandle" ∧ (parseMethodDescriptor y_Model_asked.desc).map (fun d => d.parameters.length) = some 2 := by decide +kernel
theorem in_Model_asked : Cond.instanceMethod ⟨"TurtleWorldModel", "asked", "(IJ)J"⟩ ∈ tw_T := tw_i11 148 (by decide +kernel) (by decide +kernel)
theorem sel_Model_asked : Cond.selects "TurtleWorldModel" ⟨"TurtleWorldModel", "asked", "(IJ)J"⟩ ⟨"TurtleWorldModel", "asked", "(IJ)J"⟩ ∈ tw_T := tw_inS 159 (by decide +kernel) (by decide +kernel)
theorem lk_Model_776 : Cond.methodLink "TurtleWorldModel" 776 ⟨"TurtleWorldModel", "caught", "(JJ)J"⟩ ∈ tw_T := tw_i11 150 (by decide +kernel) (by decide +kernel)
theorem hd_Model_caught : y_Model_caught.cls ≠ "java/lang/invoke/MethodHandle" ∧ y_Model_caught.cls ≠ "java/lang/invoke/VarHandle" ∧ (parseMethodDescriptor y_Model_caught.desc).map (fun d => d.parameters.length) = some 2 := by decide +kernel
theorem in_Model_caught : Cond.instanceMethod ⟨"TurtleWorldModel", "caught", "(JJ)J"⟩ ∈ tw_T := tw_i11 152 (by decide +kernel) (by decide +kernel)
theorem sel_Model_caught : Cond.selects "TurtleWorldModel" ⟨"TurtleWorldModel", "caught", "(JJ)J"⟩ ⟨"TurtleWorldModel", "caught", "(JJ)J"⟩ ∈ tw_T := tw_inS 160 (by decide +kernel) (by decide +kernel)
theorem lk_Model_779 : Cond.methodLink "TurtleWorldModel" 779 ⟨"TurtleWorldModel", "throwing", "(J)J"⟩ ∈ tw_T := tw_i11 155 (by decide +kernel) (by decide +kernel)
theorem hd_Model_throwing : y_Model_throwing.cls ≠ "java/lang/invoke/MethodHandle" ∧ y_Model_throwing.cls ≠ "java/lang/invoke/VarHandle" ∧ (parseMethodDescriptor y_Model_throwing.desc).map (fun d => d.parameters.length) = some 1 := by decide +kernel
theorem in_Model_throwing : Cond.instanceMethod ⟨"TurtleWorldModel", "throwing", "(J)J"⟩ ∈ tw_T := tw_i11 157 (by decide +kernel) (by decide +kernel)
theorem sel_Model_throwing : Cond.selects "TurtleWorldModel" ⟨"TurtleWorldModel", "throwing", "(J)J"⟩ ⟨"TurtleWorldModel", "throwing", "(J)J"⟩ ∈ tw_T := tw_inS 161 (by decide +kernel) (by decide +kernel)
theorem lk_Model_786 : Cond.methodLink "TurtleWorldModel" 786 ⟨"TurtleWorldModel", "tellOut", "(I)V"⟩ ∈ tw_T := tw_i11 163 (by decide +kernel) (by decide +kernel)
theorem hd_Model_tellOut : y_Model_tellOut.cls ≠ "java/lang/invoke/MethodHandle" ∧ y_Model_tellOut.cls ≠ "java/lang/invoke/VarHandle" ∧ (parseMethodDescriptor y_Model_tellOut.desc).map (fun d => d.parameters.length) = some 1 := by decide +kernel
theorem in_Model_tellOut : Cond.instanceMethod ⟨"TurtleWorldModel", "tellOut", "(I)V"⟩ ∈ tw_T := tw_i11 165 (by decide +kernel) (by decide +kernel)
theorem sel_Model_tellOut : Cond.selects "TurtleWorldModel" ⟨"TurtleWorldModel", "tellOut", "(I)V"⟩ ⟨"TurtleWorldModel", "tellOut", "(I)V"⟩ ∈ tw_T := tw_inS 163 (by decide +kernel) (by decide +kernel)
theorem d_Model_repeated_0 : decode b_Model_repeated 0 = .ok (.iload_n 1, 1) := by decide +kernel
theorem d_Model_repeated_1 : decode b_Model_repeated 1 = .ok (.iconst 1, 1) := by decide +kernel
theorem d_Model_repeated_2 : decode b_Model_repeated 2 = .ok (.if_icmp .lt 10, 3) := by decide +kernel
theorem d_Model_repeated_5 : decode b_Model_repeated 5 = .ok (.aload_n 0, 1) := by decide +kernel
theorem d_Model_repeated_6 : decode b_Model_repeated 6 = .ok (.invokevirtual 646, 3) := by decide +kernel
theorem d_Model_repeated_9 : decode b_Model_repeated 9 = .ok (.ifCond .ne 7, 3) := by decide +kernel
theorem d_Model_repeated_12 : decode b_Model_repeated 12 = .ok (.ldc2_w 7, 3) := by decide +kernel
theorem d_Model_repeated_15 : decode b_Model_repeated 15 = .ok (.lreturn, 1) := by decide +kernel
theorem d_Model_repeated_16 : decode b_Model_repeated 16 = .ok (.aload_n 0, 1) := by decide +kernel
theorem d_Model_repeated_17 : decode b_Model_repeated 17 = .ok (.getfield 565, 3) := by decide +kernel
theorem d_Model_repeated_20 : decode b_Model_repeated 20 = .ok (.istore 4, 2) := by decide +kernel
theorem d_Model_repeated_22 : decode b_Model_repeated 22 = .ok (.aload_n 0, 1) := by decide +kernel
theorem d_Model_repeated_23 : decode b_Model_repeated 23 = .ok (.getfield 319, 3) := by decide +kernel
theorem d_Model_repeated_26 : decode b_Model_repeated 26 = .ok (.iload 4, 2) := by decide +kernel
theorem d_Model_repeated_28 : decode b_Model_repeated 28 = .ok (.aload_n 0, 1) := by decide +kernel
theorem d_Model_repeated_29 : decode b_Model_repeated 29 = .ok (.getfield 538, 3) := by decide +kernel
theorem d_Model_repeated_32 : decode b_Model_repeated 32 = .ok (.iastore, 1) := by decide +kernel
theorem d_Model_repeated_33 : decode b_Model_repeated 33 = .ok (.aload_n 0, 1) := by decide +kernel
theorem d_Model_repeated_34 : decode b_Model_repeated 34 = .ok (.dup, 1) := by decide +kernel
theorem d_Model_repeated_35 : decode b_Model_repeated 35 = .ok (.getfield 565, 3) := by decide +kernel
theorem d_Model_repeated_38 : decode b_Model_repeated 38 = .ok (.iconst 1, 1) := by decide +kernel
theorem d_Model_repeated_39 : decode b_Model_repeated 39 = .ok (.iadd, 1) := by decide +kernel
theorem d_Model_repeated_40 : decode b_Model_repeated 40 = .ok (.putfield 565, 3) := by decide +kernel
theorem d_Model_repeated_43 : decode b_Model_repeated 43 = .ok (.aload_n 0, 1) := by decide +kernel
theorem d_Model_repeated_44 : decode b_Model_repeated 44 = .ok (.dup, 1) := by decide +kernel
theorem d_Model_repeated_45 : decode b_Model_repeated 45 = .ok (.getfield 532, 3) := by decide +kernel
theorem d_Model_repeated_48 : decode b_Model_repeated 48 = .ok (.iconst 1, 1) := by decide +kernel
theorem d_Model_repeated_49 : decode b_Model_repeated 49 = .ok (.iadd, 1) := by decide +kernel
theorem d_Model_repeated_50 : decode b_Model_repeated 50 = .ok (.putfield 532, 3) := by decide +kernel
theorem d_Model_repeated_53 : decode b_Model_repeated 53 = .ok (.iconst 1, 1) := by decide +kernel
theorem d_Model_repeated_54 : decode b_Model_repeated 54 = .ok (.istore 5, 2) := by decide +kernel
theorem d_Model_repeated_56 : decode b_Model_repeated 56 = .ok (.iload 5, 2) := by decide +kernel
theorem d_Model_repeated_58 : decode b_Model_repeated 58 = .ok (.iload_n 1, 1) := by decide +kernel
theorem d_Model_repeated_59 : decode b_Model_repeated 59 = .ok (.if_icmp .gt 50, 3) := by decide +kernel
theorem d_Model_repeated_62 : decode b_Model_repeated 62 = .ok (.aload_n 0, 1) := by decide +kernel
theorem d_Model_repeated_63 : decode b_Model_repeated 63 = .ok (.getfield 559, 3) := by decide +kernel
theorem d_Model_repeated_66 : decode b_Model_repeated 66 = .ok (.ifCond .ne 43, 3) := by decide +kernel
theorem d_Model_repeated_69 : decode b_Model_repeated 69 = .ok (.iload 5, 2) := by decide +kernel
theorem d_Model_repeated_71 : decode b_Model_repeated 71 = .ok (.iconst 1, 1) := by decide +kernel
theorem d_Model_repeated_72 : decode b_Model_repeated 72 = .ok (.if_icmp .le 14, 3) := by decide +kernel
theorem d_Model_repeated_75 : decode b_Model_repeated 75 = .ok (.aload_n 0, 1) := by decide +kernel
theorem d_Model_repeated_76 : decode b_Model_repeated 76 = .ok (.invokevirtual 620, 3) := by decide +kernel
theorem d_Model_repeated_79 : decode b_Model_repeated 79 = .ok (.ifCond .ne 7, 3) := by decide +kernel
theorem d_Model_repeated_82 : decode b_Model_repeated 82 = .ok (.ldc2_w 7, 3) := by decide +kernel
theorem d_Model_repeated_85 : decode b_Model_repeated 85 = .ok (.lreturn, 1) := by decide +kernel
theorem d_Model_repeated_86 : decode b_Model_repeated 86 = .ok (.aload_n 0, 1) := by decide +kernel
theorem d_Model_repeated_87 : decode b_Model_repeated 87 = .ok (.getfield 316, 3) := by decide +kernel
theorem d_Model_repeated_90 : decode b_Model_repeated 90 = .ok (.iload 4, 2) := by decide +kernel
theorem d_Model_repeated_92 : decode b_Model_repeated 92 = .ok (.iload 5, 2) := by decide +kernel
theorem d_Model_repeated_94 : decode b_Model_repeated 94 = .ok (.iastore, 1) := by decide +kernel
theorem d_Model_repeated_95 : decode b_Model_repeated 95 = .ok (.aload_n 0, 1) := by decide +kernel
theorem d_Model_repeated_96 : decode b_Model_repeated 96 = .ok (.lload_n 2, 1) := by decide +kernel
theorem d_Model_repeated_97 : decode b_Model_repeated 97 = .ok (.iconst 0, 1) := by decide +kernel
theorem d_Model_repeated_98 : decode b_Model_repeated 98 = .ok (.invokevirtual 642, 3) := by decide +kernel
theorem d_Model_repeated_101 : decode b_Model_repeated 101 = .ok (.lstore 6, 2) := by decide +kernel
theorem d_Model_repeated_103 : decode b_Model_repeated 103 = .ok (.iinc 5 1, 3) := by decide +kernel
theorem d_Model_repeated_106 : decode b_Model_repeated 106 = .ok (.goto (-50), 3) := by decide +kernel
theorem d_Model_repeated_109 : decode b_Model_repeated 109 = .ok (.aload_n 0, 1) := by decide +kernel
theorem d_Model_repeated_110 : decode b_Model_repeated 110 = .ok (.getfield 559, 3) := by decide +kernel
theorem d_Model_repeated_113 : decode b_Model_repeated 113 = .ok (.ifCond .ne 19, 3) := by decide +kernel
theorem d_Model_repeated_116 : decode b_Model_repeated 116 = .ok (.aload_n 0, 1) := by decide +kernel
theorem d_Model_repeated_117 : decode b_Model_repeated 117 = .ok (.iload 4, 2) := by decide +kernel
theorem d_Model_repeated_119 : decode b_Model_repeated 119 = .ok (.putfield 565, 3) := by decide +kernel
theorem d_Model_repeated_122 : decode b_Model_repeated 122 = .ok (.aload_n 0, 1) := by decide +kernel
theorem d_Model_repeated_123 : decode b_Model_repeated 123 = .ok (.dup, 1) := by decide +kernel
theorem d_Model_repeated_124 : decode b_Model_repeated 124 = .ok (.getfield 532, 3) := by decide +kernel
theorem d_Model_repeated_127 : decode b_Model_repeated 127 = .ok (.iconst 1, 1) := by decide +kernel
theorem d_Model_repeated_128 : decode b_Model_repeated 128 = .ok (.isub, 1) := by decide +kernel
theorem d_Model_repeated_129 : decode b_Model_repeated 129 = .ok (.putfield 532, 3) := by decide +kernel
theorem d_Model_repeated_132 : decode b_Model_repeated 132 = .ok (.ldc2_w 7, 3) := by decide +kernel
theorem d_Model_repeated_135 : decode b_Model_repeated 135 = .ok (.lreturn, 1) := by decide +kernel
theorem d_Model_whiled_0 : decode b_Model_whiled 0 = .ok (.aload_n 0, 1) := by decide +kernel
theorem d_Model_whiled_1 : decode b_Model_whiled 1 = .ok (.invokevirtual 646, 3) := by decide +kernel
theorem d_Model_whiled_4 : decode b_Model_whiled 4 = .ok (.ifCond .ne 7, 3) := by decide +kernel
theorem d_Model_whiled_7 : decode b_Model_whiled 7 = .ok (.ldc2_w 7, 3) := by decide +kernel
theorem d_Model_whiled_10 : decode b_Model_whiled 10 = .ok (.lreturn, 1) := by decide +kernel
theorem d_Model_whiled_11 : decode b_Model_whiled 11 = .ok (.iconst 1, 1) := by decide +kernel
theorem d_Model_whiled_12 : decode b_Model_whiled 12 = .ok (.istore 5, 2) := by decide +kernel
theorem d_Model_whiled_14 : decode b_Model_whiled 14 = .ok (.aload_n 0, 1) := by decide +kernel
theorem d_Model_whiled_15 : decode b_Model_whiled 15 = .ok (.dup, 1) := by decide +kernel
theorem d_Model_whiled_16 : decode b_Model_whiled 16 = .ok (.getfield 532, 3) := by decide +kernel
theorem d_Model_whiled_19 : decode b_Model_whiled 19 = .ok (.iconst 1, 1) := by decide +kernel
theorem d_Model_whiled_20 : decode b_Model_whiled 20 = .ok (.iadd, 1) := by decide +kernel
theorem d_Model_whiled_21 : decode b_Model_whiled 21 = .ok (.putfield 532, 3) := by decide +kernel
theorem d_Model_whiled_24 : decode b_Model_whiled 24 = .ok (.iload 5, 2) := by decide +kernel
theorem d_Model_whiled_26 : decode b_Model_whiled 26 = .ok (.ifCond .eq 94, 3) := by decide +kernel
theorem d_Model_whiled_29 : decode b_Model_whiled 29 = .ok (.aload_n 0, 1) := by decide +kernel
theorem d_Model_whiled_30 : decode b_Model_whiled 30 = .ok (.lload_n 1, 1) := by decide +kernel
theorem d_Model_whiled_31 : decode b_Model_whiled 31 = .ok (.iconst 1, 1) := by decide +kernel
theorem d_Model_whiled_32 : decode b_Model_whiled 32 = .ok (.invokevirtual 642, 3) := by decide +kernel
theorem d_Model_whiled_35 : decode b_Model_whiled 35 = .ok (.lstore 6, 2) := by decide +kernel
theorem d_Model_whiled_37 : decode b_Model_whiled 37 = .ok (.aload_n 0, 1) := by decide +kernel
theorem d_Model_whiled_38 : decode b_Model_whiled 38 = .ok (.getfield 559, 3) := by decide +kernel
theorem d_Model_whiled_41 : decode b_Model_whiled 41 = .ok (.ifCond .eq 7, 3) := by decide +kernel
theorem d_Model_whiled_44 : decode b_Model_whiled 44 = .ok (.ldc2_w 7, 3) := by decide +kernel
theorem d_Model_whiled_47 : decode b_Model_whiled 47 = .ok (.lreturn, 1) := by decide +kernel
theorem d_Model_whiled_48 : decode b_Model_whiled 48 = .ok (.lload 6, 2) := by decide +kernel
theorem d_Model_whiled_50 : decode b_Model_whiled 50 = .ok (.ldc2_w 7, 3) := by decide +kernel
theorem d_Model_whiled_53 : decode b_Model_whiled 53 = .ok (.lcmp, 1) := by decide +kernel
theorem d_Model_whiled_54 : decode b_Model_whiled 54 = .ok (.ifCond .ne 9, 3) := by decide +kernel
theorem d_Model_whiled_57 : decode b_Model_whiled 57 = .ok (.aload_n 0, 1) := by decide +kernel
theorem d_Model_whiled_58 : decode b_Model_whiled 58 = .ok (.iconst 4, 1) := by decide +kernel
theorem d_Model_whiled_59 : decode b_Model_whiled 59 = .ok (.invokevirtual 596, 3) := by decide +kernel
theorem d_Model_whiled_62 : decode b_Model_whiled 62 = .ok (.lreturn, 1) := by decide +kernel
theorem d_Model_whiled_63 : decode b_Model_whiled 63 = .ok (.aload_n 0, 1) := by decide +kernel
theorem d_Model_whiled_64 : decode b_Model_whiled 64 = .ok (.lload 6, 2) := by decide +kernel
theorem d_Model_whiled_66 : decode b_Model_whiled 66 = .ok (.invokevirtual 659, 3) := by decide +kernel
theorem d_Model_whiled_69 : decode b_Model_whiled 69 = .ok (.ifCond .ne 9, 3) := by decide +kernel
theorem d_Model_whiled_72 : decode b_Model_whiled 72 = .ok (.aload_n 0, 1) := by decide +kernel
theorem d_Model_whiled_73 : decode b_Model_whiled 73 = .ok (.iconst 3, 1) := by decide +kernel
theorem d_Model_whiled_74 : decode b_Model_whiled 74 = .ok (.invokevirtual 596, 3) := by decide +kernel
theorem d_Model_whiled_77 : decode b_Model_whiled 77 = .ok (.lreturn, 1) := by decide +kernel
theorem d_Model_whiled_78 : decode b_Model_whiled 78 = .ok (.aload_n 0, 1) := by decide +kernel
theorem d_Model_whiled_79 : decode b_Model_whiled 79 = .ok (.lload 6, 2) := by decide +kernel
theorem d_Model_whiled_81 : decode b_Model_whiled 81 = .ok (.invokevirtual 662, 3) := by decide +kernel
theorem d_Model_whiled_84 : decode b_Model_whiled 84 = .ok (.istore 5, 2) := by decide +kernel
theorem d_Model_whiled_86 : decode b_Model_whiled 86 = .ok (.iload 5, 2) := by decide +kernel
theorem d_Model_whiled_88 : decode b_Model_whiled 88 = .ok (.ifCond .eq 29, 3) := by decide +kernel
theorem d_Model_whiled_91 : decode b_Model_whiled 91 = .ok (.aload_n 0, 1) := by decide +kernel
theorem d_Model_whiled_92 : decode b_Model_whiled 92 = .ok (.lload_n 3, 1) := by decide +kernel
theorem d_Model_whiled_93 : decode b_Model_whiled 93 = .ok (.iconst 0, 1) := by decide +kernel
theorem d_Model_whiled_94 : decode b_Model_whiled 94 = .ok (.invokevirtual 642, 3) := by decide +kernel
theorem d_Model_whiled_97 : decode b_Model_whiled 97 = .ok (.lstore 6, 2) := by decide +kernel
theorem d_Model_whiled_99 : decode b_Model_whiled 99 = .ok (.aload_n 0, 1) := by decide +kernel
theorem d_Model_whiled_100 : decode b_Model_whiled 100 = .ok (.getfield 559, 3) := by decide +kernel
theorem d_Model_whiled_103 : decode b_Model_whiled 103 = .ok (.ifCond .ne 10, 3) := by decide +kernel
theorem d_Model_whiled_106 : decode b_Model_whiled 106 = .ok (.aload_n 0, 1) := by decide +kernel
theorem d_Model_whiled_107 : decode b_Model_whiled 107 = .ok (.invokevirtual 620, 3) := by decide +kernel
theorem d_Model_whiled_110 : decode b_Model_whiled 110 = .ok (.ifCond .ne 7, 3) := by decide +kernel
theorem d_Model_whiled_113 : decode b_Model_whiled 113 = .ok (.ldc2_w 7, 3) := by decide +kernel
theorem d_Model_whiled_116 : decode b_Model_whiled 116 = .ok (.lreturn, 1) := by decide +kernel
theorem d_Model_whiled_117 : decode b_Model_whiled 117 = .ok (.goto (-93), 3) := by decide +kernel
theorem d_Model_whiled_120 : decode b_Model_whiled 120 = .ok (.aload_n 0, 1) := by decide +kernel
theorem d_Model_whiled_121 : decode b_Model_whiled 121 = .ok (.dup, 1) := by decide +kernel
theorem d_Model_whiled_122 : decode b_Model_whiled 122 = .ok (.getfield 532, 3) := by decide +kernel
theorem d_Model_whiled_125 : decode b_Model_whiled 125 = .ok (.iconst 1, 1) := by decide +kernel
theorem d_Model_whiled_126 : decode b_Model_whiled 126 = .ok (.isub, 1) := by decide +kernel
theorem d_Model_whiled_127 : decode b_Model_whiled 127 = .ok (.putfield 532, 3) := by decide +kernel
theorem d_Model_whiled_130 : decode b_Model_whiled 130 = .ok (.ldc2_w 7, 3) := by decide +kernel
theorem d_Model_whiled_133 : decode b_Model_whiled 133 = .ok (.lreturn, 1) := by decide +kernel
theorem d_Model_forEach_0 : decode b_Model_forEach 0 = .ok (.aload_n 0, 1) := by decide +kernel
theorem d_Model_forEach_1 : decode b_Model_forEach 1 = .ok (.lload_n 1, 1) := by decide +kernel
theorem d_Model_forEach_2 : decode b_Model_forEach 2 = .ok (.invokevirtual 98, 3) := by decide +kernel
theorem d_Model_forEach_5 : decode b_Model_forEach 5 = .ok (.istore 6, 2) := by decide +kernel
theorem d_Model_forEach_7 : decode b_Model_forEach 7 = .ok (.iload 5, 2) := by decide +kernel
theorem d_Model_forEach_9 : decode b_Model_forEach 9 = .ok (.ifCond .eq 20, 3) := by decide +kernel
theorem d_Model_forEach_12 : decode b_Model_forEach 12 = .ok (.aload_n 0, 1) := by decide +kernel
theorem d_Model_forEach_13 : decode b_Model_forEach 13 = .ok (.getfield 556, 3) := by decide +kernel
theorem d_Model_forEach_16 : decode b_Model_forEach 16 = .ok (.sipush 30000, 3) := by decide +kernel
theorem d_Model_forEach_19 : decode b_Model_forEach 19 = .ok (.if_icmp .ne 10, 3) := by decide +kernel
theorem d_Model_forEach_22 : decode b_Model_forEach 22 = .ok (.aload_n 0, 1) := by decide +kernel
theorem d_Model_forEach_23 : decode b_Model_forEach 23 = .ok (.bipush 8, 2) := by decide +kernel
theorem d_Model_forEach_25 : decode b_Model_forEach 25 = .ok (.invokevirtual 596, 3) := by decide +kernel
theorem d_Model_forEach_28 : decode b_Model_forEach 28 = .ok (.lreturn, 1) := by decide +kernel
theorem d_Model_forEach_29 : decode b_Model_forEach 29 = .ok (.iload 6, 2) := by decide +kernel
theorem d_Model_forEach_31 : decode b_Model_forEach 31 = .ok (.ifCond .le 14, 3) := by decide +kernel
theorem d_Model_forEach_34 : decode b_Model_forEach 34 = .ok (.aload_n 0, 1) := by decide +kernel
theorem d_Model_forEach_35 : decode b_Model_forEach 35 = .ok (.invokevirtual 646, 3) := by decide +kernel
theorem d_Model_forEach_38 : decode b_Model_forEach 38 = .ok (.ifCond .ne 7, 3) := by decide +kernel
theorem d_Model_forEach_41 : decode b_Model_forEach 41 = .ok (.ldc2_w 7, 3) := by decide +kernel
theorem d_Model_forEach_44 : decode b_Model_forEach 44 = .ok (.lreturn, 1) := by decide +kernel
theorem d_Model_forEach_45 : decode b_Model_forEach 45 = .ok (.aload_n 0, 1) := by decide +kernel
theorem d_Model_forEach_46 : decode b_Model_forEach 46 = .ok (.dup, 1) := by decide +kernel
theorem d_Model_forEach_47 : decode b_Model_forEach 47 = .ok (.getfield 556, 3) := by decide +kernel
theorem d_Model_forEach_50 : decode b_Model_forEach 50 = .ok (.iload 5, 2) := by decide +kernel
theorem d_Model_forEach_52 : decode b_Model_forEach 52 = .ok (.ifCond .eq 7, 3) := by decide +kernel
theorem d_Model_forEach_55 : decode b_Model_forEach 55 = .ok (.iconst 1, 1) := by decide +kernel
theorem d_Model_forEach_56 : decode b_Model_forEach 56 = .ok (.goto 4, 3) := by decide +kernel
theorem d_Model_forEach_59 : decode b_Model_forEach 59 = .ok (.iconst 0, 1) := by decide +kernel
theorem d_Model_forEach_60 : decode b_Model_forEach 60 = .ok (.iadd, 1) := by decide +kernel
theorem d_Model_forEach_61 : decode b_Model_forEach 61 = .ok (.putfield 556, 3) := by decide +kernel
theorem d_Model_forEach_64 : decode b_Model_forEach 64 = .ok (.aload_n 0, 1) := by decide +kernel
theorem d_Model_forEach_65 : decode b_Model_forEach 65 = .ok (.getfield 562, 3) := by decide +kernel
theorem d_Model_forEach_68 : decode b_Model_forEach 68 = .ok (.istore 7, 2) := by decide +kernel
theorem d_Model_forEach_70 : decode b_Model_forEach 70 = .ok (.iconst 1, 1) := by decide +kernel
theorem d_Model_forEach_71 : decode b_Model_forEach 71 = .ok (.istore 8, 2) := by decide +kernel
theorem d_Model_forEach_73 : decode b_Model_forEach 73 = .ok (.aload_n 0, 1) := by decide +kernel
theorem d_Model_forEach_74 : decode b_Model_forEach 74 = .ok (.getfield 568, 3) := by decide +kernel
theorem d_Model_forEach_77 : decode b_Model_forEach 77 = .ok (.istore 9, 2) := by decide +kernel
theorem d_Model_forEach_79 : decode b_Model_forEach 79 = .ok (.aload_n 0, 1) := by decide +kernel
theorem d_Model_forEach_80 : decode b_Model_forEach 80 = .ok (.getfield 322, 3) := by decide +kernel
theorem d_Model_forEach_83 : decode b_Model_forEach 83 = .ok (.iload 9, 2) := by decide +kernel
theorem d_Model_forEach_85 : decode b_Model_forEach 85 = .ok (.aload_n 0, 1) := by decide +kernel
theorem d_Model_forEach_86 : decode b_Model_forEach 86 = .ok (.getfield 538, 3) := by decide +kernel
theorem d_Model_forEach_89 : decode b_Model_forEach 89 = .ok (.iastore, 1) := by decide +kernel
theorem d_Model_forEach_90 : decode b_Model_forEach 90 = .ok (.aload_n 0, 1) := by decide +kernel
theorem d_Model_forEach_91 : decode b_Model_forEach 91 = .ok (.dup, 1) := by decide +kernel
theorem d_Model_forEach_92 : decode b_Model_forEach 92 = .ok (.getfield 568, 3) := by decide +kernel
theorem d_Model_forEach_95 : decode b_Model_forEach 95 = .ok (.iconst 1, 1) := by decide +kernel
theorem d_Model_forEach_96 : decode b_Model_forEach 96 = .ok (.iadd, 1) := by decide +kernel
theorem d_Model_forEach_97 : decode b_Model_forEach 97 = .ok (.putfield 568, 3) := by decide +kernel
theorem d_Model_forEach_100 : decode b_Model_forEach 100 = .ok (.aload_n 0, 1) := by decide +kernel
theorem d_Model_forEach_101 : decode b_Model_forEach 101 = .ok (.dup, 1) := by decide +kernel
theorem d_Model_forEach_102 : decode b_Model_forEach 102 = .ok (.getfield 532, 3) := by decide +kernel
theorem d_Model_forEach_105 : decode b_Model_forEach 105 = .ok (.iconst 1, 1) := by decide +kernel
theorem d_Model_forEach_106 : decode b_Model_forEach 106 = .ok (.iadd, 1) := by decide +kernel
theorem d_Model_forEach_107 : decode b_Model_forEach 107 = .ok (.putfield 532, 3) := by decide +kernel
theorem d_Model_forEach_110 : decode b_Model_forEach 110 = .ok (.iconst 0, 1) := by decide +kernel
theorem d_Model_forEach_111 : decode b_Model_forEach 111 = .ok (.istore 10, 2) := by decide +kernel
theorem d_Model_forEach_113 : decode b_Model_forEach 113 = .ok (.iload 10, 2) := by decide +kernel
theorem d_Model_forEach_115 : decode b_Model_forEach 115 = .ok (.iload 6, 2) := by decide +kernel
theorem d_Model_forEach_117 : decode b_Model_forEach 117 = .ok (.if_icmp .ge 141, 3) := by decide +kernel
theorem d_Model_forEach_120 : decode b_Model_forEach 120 = .ok (.iload 10, 2) := by decide +kernel
theorem d_Model_forEach_122 : decode b_Model_forEach 122 = .ok (.ifCond .le 14, 3) := by decide +kernel
theorem d_Model_forEach_125 : decode b_Model_forEach 125 = .ok (.aload_n 0, 1) := by decide +kernel
theorem d_Model_forEach_126 : decode b_Model_forEach 126 = .ok (.invokevirtual 620, 3) := by decide +kernel
theorem d_Model_forEach_129 : decode b_Model_forEach 129 = .ok (.ifCond .ne 7, 3) := by decide +kernel
theorem d_Model_forEach_132 : decode b_Model_forEach 132 = .ok (.ldc2_w 7, 3) := by decide +kernel
theorem d_Model_forEach_135 : decode b_Model_forEach 135 = .ok (.lreturn, 1) := by decide +kernel
theorem d_Model_forEach_136 : decode b_Model_forEach 136 = .ok (.aload_n 0, 1) := by decide +kernel
theorem d_Model_forEach_137 : decode b_Model_forEach 137 = .ok (.getfield 325, 3) := by decide +kernel
theorem d_Model_forEach_140 : decode b_Model_forEach 140 = .ok (.iload 9, 2) := by decide +kernel
theorem d_Model_forEach_142 : decode b_Model_forEach 142 = .ok (.aload_n 0, 1) := by decide +kernel
theorem d_Model_forEach_143 : decode b_Model_forEach 143 = .ok (.lload_n 1, 1) := by decide +kernel
theorem d_Model_forEach_144 : decode b_Model_forEach 144 = .ok (.iload 10, 2) := by decide +kernel
theorem d_Model_forEach_146 : decode b_Model_forEach 146 = .ok (.invokevirtual 101, 3) := by decide +kernel
theorem d_Model_forEach_149 : decode b_Model_forEach 149 = .ok (.lastore, 1) := by decide +kernel
theorem d_Model_forEach_150 : decode b_Model_forEach 150 = .ok (.aload_n 0, 1) := by decide +kernel
theorem d_Model_forEach_151 : decode b_Model_forEach 151 = .ok (.lload_n 3, 1) := by decide +kernel
theorem d_Model_forEach_152 : decode b_Model_forEach 152 = .ok (.iload 5, 2) := by decide +kernel
theorem d_Model_forEach_154 : decode b_Model_forEach 154 = .ok (.invokevirtual 642, 3) := by decide +kernel
theorem d_Model_forEach_157 : decode b_Model_forEach 157 = .ok (.lstore 11, 2) := by decide +kernel
theorem d_Model_forEach_159 : decode b_Model_forEach 159 = .ok (.aload_n 0, 1) := by decide +kernel
theorem d_Model_forEach_160 : decode b_Model_forEach 160 = .ok (.getfield 559, 3) := by decide +kernel
theorem d_Model_forEach_163 : decode b_Model_forEach 163 = .ok (.ifCond .eq 7, 3) := by decide +kernel
theorem d_Model_forEach_166 : decode b_Model_forEach 166 = .ok (.ldc2_w 7, 3) := by decide +kernel
theorem d_Model_forEach_169 : decode b_Model_forEach 169 = .ok (.lreturn, 1) := by decide +kernel
theorem d_Model_forEach_170 : decode b_Model_forEach 170 = .ok (.iload 5, 2) := by decide +kernel
theorem d_Model_forEach_172 : decode b_Model_forEach 172 = .ok (.ifCond .ne 6, 3) := by decide +kernel
theorem d_Model_forEach_175 : decode b_Model_forEach 175 = .ok (.goto 77, 3) := by decide +kernel
theorem d_Model_forEach_178 : decode b_Model_forEach 178 = .ok (.lload 11, 2) := by decide +kernel
theorem d_Model_forEach_180 : decode b_Model_forEach 180 = .ok (.ldc2_w 7, 3) := by decide +kernel
theorem d_Model_forEach_183 : decode b_Model_forEach 183 = .ok (.lcmp, 1) := by decide +kernel
theorem d_Model_forEach_184 : decode b_Model_forEach 184 = .ok (.ifCond .ne 9, 3) := by decide +kernel
theorem d_Model_forEach_187 : decode b_Model_forEach 187 = .ok (.aload_n 0, 1) := by decide +kernel
theorem d_Model_forEach_188 : decode b_Model_forEach 188 = .ok (.iconst 4, 1) := by decide +kernel
theorem d_Model_forEach_189 : decode b_Model_forEach 189 = .ok (.invokevirtual 596, 3) := by decide +kernel
theorem d_Model_forEach_192 : decode b_Model_forEach 192 = .ok (.lreturn, 1) := by decide +kernel
theorem d_Model_forEach_193 : decode b_Model_forEach 193 = .ok (.iload 8, 2) := by decide +kernel
theorem d_Model_forEach_195 : decode b_Model_forEach 195 = .ok (.aload_n 0, 1) := by decide +kernel
theorem d_Model_forEach_196 : decode b_Model_forEach 196 = .ok (.lload 11, 2) := by decide +kernel
theorem d_Model_forEach_198 : decode b_Model_forEach 198 = .ok (.invokevirtual 38, 3) := by decide +kernel
theorem d_Model_forEach_201 : decode b_Model_forEach 201 = .ok (.iadd, 1) := by decide +kernel
theorem d_Model_forEach_202 : decode b_Model_forEach 202 = .ok (.istore 8, 2) := by decide +kernel
theorem d_Model_forEach_204 : decode b_Model_forEach 204 = .ok (.iload 8, 2) := by decide +kernel
theorem d_Model_forEach_206 : decode b_Model_forEach 206 = .ok (.sipush 600, 3) := by decide +kernel
theorem d_Model_forEach_209 : decode b_Model_forEach 209 = .ok (.if_icmp .le 10, 3) := by decide +kernel
theorem d_Model_forEach_212 : decode b_Model_forEach 212 = .ok (.aload_n 0, 1) := by decide +kernel
theorem d_Model_forEach_213 : decode b_Model_forEach 213 = .ok (.bipush 8, 2) := by decide +kernel
theorem d_Model_forEach_215 : decode b_Model_forEach 215 = .ok (.invokevirtual 596, 3) := by decide +kernel
theorem d_Model_forEach_218 : decode b_Model_forEach 218 = .ok (.lreturn, 1) := by decide +kernel
theorem d_Model_forEach_219 : decode b_Model_forEach 219 = .ok (.aload_n 0, 1) := by decide +kernel
theorem d_Model_forEach_220 : decode b_Model_forEach 220 = .ok (.iconst 1, 1) := by decide +kernel
theorem d_Model_forEach_221 : decode b_Model_forEach 221 = .ok (.invokevirtual 665, 3) := by decide +kernel
theorem d_Model_forEach_224 : decode b_Model_forEach 224 = .ok (.ifCond .ne 7, 3) := by decide +kernel
theorem d_Model_forEach_227 : decode b_Model_forEach 227 = .ok (.ldc2_w 7, 3) := by decide +kernel
theorem d_Model_forEach_230 : decode b_Model_forEach 230 = .ok (.lreturn, 1) := by decide +kernel
theorem d_Model_forEach_231 : decode b_Model_forEach 231 = .ok (.aload_n 0, 1) := by decide +kernel
theorem d_Model_forEach_232 : decode b_Model_forEach 232 = .ok (.getfield 301, 3) := by decide +kernel
theorem d_Model_forEach_235 : decode b_Model_forEach 235 = .ok (.aload_n 0, 1) := by decide +kernel
theorem d_Model_forEach_236 : decode b_Model_forEach 236 = .ok (.getfield 562, 3) := by decide +kernel
theorem d_Model_forEach_239 : decode b_Model_forEach 239 = .ok (.lload 11, 2) := by decide +kernel
theorem d_Model_forEach_241 : decode b_Model_forEach 241 = .ok (.lastore, 1) := by decide +kernel
theorem d_Model_forEach_242 : decode b_Model_forEach 242 = .ok (.aload_n 0, 1) := by decide +kernel
theorem d_Model_forEach_243 : decode b_Model_forEach 243 = .ok (.dup, 1) := by decide +kernel
theorem d_Model_forEach_244 : decode b_Model_forEach 244 = .ok (.getfield 562, 3) := by decide +kernel
theorem d_Model_forEach_247 : decode b_Model_forEach 247 = .ok (.iconst 1, 1) := by decide +kernel
theorem d_Model_forEach_248 : decode b_Model_forEach 248 = .ok (.iadd, 1) := by decide +kernel
theorem d_Model_forEach_249 : decode b_Model_forEach 249 = .ok (.putfield 562, 3) := by decide +kernel
theorem d_Model_forEach_252 : decode b_Model_forEach 252 = .ok (.iinc 10 1, 3) := by decide +kernel
theorem d_Model_forEach_255 : decode b_Model_forEach 255 = .ok (.goto (-142), 3) := by decide +kernel
theorem d_Model_forEach_258 : decode b_Model_forEach 258 = .ok (.aload_n 0, 1) := by decide +kernel
theorem d_Model_forEach_259 : decode b_Model_forEach 259 = .ok (.iload 9, 2) := by decide +kernel
theorem d_Model_forEach_261 : decode b_Model_forEach 261 = .ok (.putfield 568, 3) := by decide +kernel
theorem d_Model_forEach_264 : decode b_Model_forEach 264 = .ok (.aload_n 0, 1) := by decide +kernel
theorem d_Model_forEach_265 : decode b_Model_forEach 265 = .ok (.dup, 1) := by decide +kernel
theorem d_Model_forEach_266 : decode b_Model_forEach 266 = .ok (.getfield 532, 3) := by decide +kernel
theorem d_Model_forEach_269 : decode b_Model_forEach 269 = .ok (.iconst 1, 1) := by decide +kernel
theorem d_Model_forEach_270 : decode b_Model_forEach 270 = .ok (.isub, 1) := by decide +kernel
theorem d_Model_forEach_271 : decode b_Model_forEach 271 = .ok (.putfield 532, 3) := by decide +kernel
theorem d_Model_forEach_274 : decode b_Model_forEach 274 = .ok (.iload 5, 2) := by decide +kernel
theorem d_Model_forEach_276 : decode b_Model_forEach 276 = .ok (.ifCond .ne 7, 3) := by decide +kernel
theorem d_Model_forEach_279 : decode b_Model_forEach 279 = .ok (.ldc2_w 7, 3) := by decide +kernel
theorem d_Model_forEach_282 : decode b_Model_forEach 282 = .ok (.lreturn, 1) := by decide +kernel
theorem d_Model_forEach_283 : decode b_Model_forEach 283 = .ok (.iload 7, 2) := by decide +kernel
theorem d_Model_forEach_285 : decode b_Model_forEach 285 = .ok (.istore 10, 2) := by decide +kernel
theorem d_Model_forEach_287 : decode b_Model_forEach 287 = .ok (.iload 10, 2) := by decide +kernel
theorem d_Model_forEach_289 : decode b_Model_forEach 289 = .ok (.aload_n 0, 1) := by decide +kernel
theorem d_Model_forEach_290 : decode b_Model_forEach 290 = .ok (.getfield 562, 3) := by decide +kernel
theorem d_Model_forEach_293 : decode b_Model_forEach 293 = .ok (.if_icmp .ge 20, 3) := by decide +kernel
theorem d_Model_forEach_296 : decode b_Model_forEach 296 = .ok (.aload_n 0, 1) := by decide +kernel
theorem d_Model_forEach_297 : decode b_Model_forEach 297 = .ok (.aload_n 0, 1) := by decide +kernel
theorem d_Model_forEach_298 : decode b_Model_forEach 298 = .ok (.getfield 301, 3) := by decide +kernel
theorem d_Model_forEach_301 : decode b_Model_forEach 301 = .ok (.iload 10, 2) := by decide +kernel
theorem d_Model_forEach_303 : decode b_Model_forEach 303 = .ok (.laload, 1) := by decide +kernel
theorem d_Model_forEach_304 : decode b_Model_forEach 304 = .ok (.invokevirtual 465, 3) := by decide +kernel
theorem d_Model_forEach_307 : decode b_Model_forEach 307 = .ok (.iinc 10 1, 3) := by decide +kernel
theorem d_Model_forEach_310 : decode b_Model_forEach 310 = .ok (.goto (-23), 3) := by decide +kernel
theorem d_Model_forEach_313 : decode b_Model_forEach 313 = .ok (.aload_n 0, 1) := by decide +kernel
theorem d_Model_forEach_314 : decode b_Model_forEach 314 = .ok (.aload_n 0, 1) := by decide +kernel
theorem d_Model_forEach_315 : decode b_Model_forEach 315 = .ok (.getfield 562, 3) := by decide +kernel
theorem d_Model_forEach_318 : decode b_Model_forEach 318 = .ok (.iload 7, 2) := by decide +kernel
theorem d_Model_forEach_320 : decode b_Model_forEach 320 = .ok (.isub, 1) := by decide +kernel
theorem d_Model_forEach_321 : decode b_Model_forEach 321 = .ok (.invokevirtual 468, 3) := by decide +kernel
theorem d_Model_forEach_324 : decode b_Model_forEach 324 = .ok (.lstore 10, 2) := by decide +kernel
theorem d_Model_forEach_326 : decode b_Model_forEach 326 = .ok (.aload_n 0, 1) := by decide +kernel
theorem d_Model_forEach_327 : decode b_Model_forEach 327 = .ok (.iload 7, 2) := by decide +kernel
theorem d_Model_forEach_329 : decode b_Model_forEach 329 = .ok (.putfield 562, 3) := by decide +kernel
theorem d_Model_forEach_332 : decode b_Model_forEach 332 = .ok (.lload 10, 2) := by decide +kernel
theorem d_Model_forEach_334 : decode b_Model_forEach 334 = .ok (.lreturn, 1) := by decide +kernel
theorem d_Model_asked_0 : decode b_Model_asked 0 = .ok (.aload_n 0, 1) := by decide +kernel
theorem d_Model_asked_1 : decode b_Model_asked 1 = .ok (.getfield 366, 3) := by decide +kernel
theorem d_Model_asked_4 : decode b_Model_asked 4 = .ok (.istore 4, 2) := by decide +kernel
theorem d_Model_asked_6 : decode b_Model_asked 6 = .ok (.aload_n 0, 1) := by decide +kernel
theorem d_Model_asked_7 : decode b_Model_asked 7 = .ok (.getfield 541, 3) := by decide +kernel
theorem d_Model_asked_10 : decode b_Model_asked 10 = .ok (.ifCond .ne 9, 3) := by decide +kernel
theorem d_Model_asked_13 : decode b_Model_asked 13 = .ok (.aload_n 0, 1) := by decide +kernel
theorem d_Model_asked_14 : decode b_Model_asked 14 = .ok (.iload 4, 2) := by decide +kernel
theorem d_Model_asked_16 : decode b_Model_asked 16 = .ok (.putfield 544, 3) := by decide +kernel
theorem d_Model_asked_19 : decode b_Model_asked 19 = .ok (.aload_n 0, 1) := by decide +kernel
theorem d_Model_asked_20 : decode b_Model_asked 20 = .ok (.dup, 1) := by decide +kernel
theorem d_Model_asked_21 : decode b_Model_asked 21 = .ok (.getfield 541, 3) := by decide +kernel
theorem d_Model_asked_24 : decode b_Model_asked 24 = .ok (.iconst 1, 1) := by decide +kernel
theorem d_Model_asked_25 : decode b_Model_asked 25 = .ok (.iadd, 1) := by decide +kernel
theorem d_Model_asked_26 : decode b_Model_asked 26 = .ok (.putfield 541, 3) := by decide +kernel
theorem d_Model_asked_29 : decode b_Model_asked 29 = .ok (.aload_n 0, 1) := by decide +kernel
theorem d_Model_asked_30 : decode b_Model_asked 30 = .ok (.iload_n 1, 1) := by decide +kernel
theorem d_Model_asked_31 : decode b_Model_asked 31 = .ok (.putfield 366, 3) := by decide +kernel
theorem d_Model_asked_34 : decode b_Model_asked 34 = .ok (.aload_n 0, 1) := by decide +kernel
theorem d_Model_asked_35 : decode b_Model_asked 35 = .ok (.lload_n 2, 1) := by decide +kernel
theorem d_Model_asked_36 : decode b_Model_asked 36 = .ok (.iconst 1, 1) := by decide +kernel
theorem d_Model_asked_37 : decode b_Model_asked 37 = .ok (.invokevirtual 649, 3) := by decide +kernel
theorem d_Model_asked_40 : decode b_Model_asked 40 = .ok (.lstore 5, 2) := by decide +kernel
theorem d_Model_asked_42 : decode b_Model_asked 42 = .ok (.aload_n 0, 1) := by decide +kernel
theorem d_Model_asked_43 : decode b_Model_asked 43 = .ok (.getfield 559, 3) := by decide +kernel
theorem d_Model_asked_46 : decode b_Model_asked 46 = .ok (.iconst 1, 1) := by decide +kernel
theorem d_Model_asked_47 : decode b_Model_asked 47 = .ok (.if_icmp .ne 7, 3) := by decide +kernel
theorem d_Model_asked_50 : decode b_Model_asked 50 = .ok (.ldc2_w 7, 3) := by decide +kernel
theorem d_Model_asked_53 : decode b_Model_asked 53 = .ok (.lreturn, 1) := by decide +kernel
theorem d_Model_asked_54 : decode b_Model_asked 54 = .ok (.aload_n 0, 1) := by decide +kernel
theorem d_Model_asked_55 : decode b_Model_asked 55 = .ok (.dup, 1) := by decide +kernel
theorem d_Model_asked_56 : decode b_Model_asked 56 = .ok (.getfield 541, 3) := by decide +kernel
theorem d_Model_asked_59 : decode b_Model_asked 59 = .ok (.iconst 1, 1) := by decide +kernel
theorem d_Model_asked_60 : decode b_Model_asked 60 = .ok (.isub, 1) := by decide +kernel
theorem d_Model_asked_61 : decode b_Model_asked 61 = .ok (.putfield 541, 3) := by decide +kernel
theorem d_Model_asked_64 : decode b_Model_asked 64 = .ok (.aload_n 0, 1) := by decide +kernel
theorem d_Model_asked_65 : decode b_Model_asked 65 = .ok (.iload 4, 2) := by decide +kernel
theorem d_Model_asked_67 : decode b_Model_asked 67 = .ok (.putfield 366, 3) := by decide +kernel
theorem d_Model_asked_70 : decode b_Model_asked 70 = .ok (.lload 5, 2) := by decide +kernel
theorem d_Model_asked_72 : decode b_Model_asked 72 = .ok (.lreturn, 1) := by decide +kernel
theorem d_Model_caught_0 : decode b_Model_caught 0 = .ok (.aload_n 0, 1) := by decide +kernel
theorem d_Model_caught_1 : decode b_Model_caught 1 = .ok (.getfield 535, 3) := by decide +kernel
theorem d_Model_caught_4 : decode b_Model_caught 4 = .ok (.istore 5, 2) := by decide +kernel
theorem d_Model_caught_6 : decode b_Model_caught 6 = .ok (.aload_n 0, 1) := by decide +kernel
theorem d_Model_caught_7 : decode b_Model_caught 7 = .ok (.getfield 532, 3) := by decide +kernel
theorem d_Model_caught_10 : decode b_Model_caught 10 = .ok (.istore 6, 2) := by decide +kernel
theorem d_Model_caught_12 : decode b_Model_caught 12 = .ok (.aload_n 0, 1) := by decide +kernel
theorem d_Model_caught_13 : decode b_Model_caught 13 = .ok (.getfield 538, 3) := by decide +kernel
theorem d_Model_caught_16 : decode b_Model_caught 16 = .ok (.istore 7, 2) := by decide +kernel
theorem d_Model_caught_18 : decode b_Model_caught 18 = .ok (.aload_n 0, 1) := by decide +kernel
theorem d_Model_caught_19 : decode b_Model_caught 19 = .ok (.getfield 565, 3) := by decide +kernel
theorem d_Model_caught_22 : decode b_Model_caught 22 = .ok (.istore 8, 2) := by decide +kernel
theorem d_Model_caught_24 : decode b_Model_caught 24 = .ok (.aload_n 0, 1) := by decide +kernel
theorem d_Model_caught_25 : decode b_Model_caught 25 = .ok (.getfield 568, 3) := by decide +kernel
theorem d_Model_caught_28 : decode b_Model_caught 28 = .ok (.istore 9, 2) := by decide +kernel
theorem d_Model_caught_30 : decode b_Model_caught 30 = .ok (.aload_n 0, 1) := by decide +kernel
theorem d_Model_caught_31 : decode b_Model_caught 31 = .ok (.getfield 562, 3) := by decide +kernel
theorem d_Model_caught_34 : decode b_Model_caught 34 = .ok (.istore 10, 2) := by decide +kernel
theorem d_Model_caught_36 : decode b_Model_caught 36 = .ok (.aload_n 0, 1) := by decide +kernel
theorem d_Model_caught_37 : decode b_Model_caught 37 = .ok (.getfield 587, 3) := by decide +kernel
theorem d_Model_caught_40 : decode b_Model_caught 40 = .ok (.istore 11, 2) := by decide +kernel
theorem d_Model_caught_42 : decode b_Model_caught 42 = .ok (.aload_n 0, 1) := by decide +kernel
theorem d_Model_caught_43 : decode b_Model_caught 43 = .ok (.getfield 590, 3) := by decide +kernel
theorem d_Model_caught_46 : decode b_Model_caught 46 = .ok (.istore 12, 2) := by decide +kernel
theorem d_Model_caught_48 : decode b_Model_caught 48 = .ok (.aload_n 0, 1) := by decide +kernel
theorem d_Model_caught_49 : decode b_Model_caught 49 = .ok (.getfield 328, 3) := by decide +kernel
theorem d_Model_caught_52 : decode b_Model_caught 52 = .ok (.aload_n 0, 1) := by decide +kernel
theorem d_Model_caught_53 : decode b_Model_caught 53 = .ok (.getfield 571, 3) := by decide +kernel
theorem d_Model_caught_56 : decode b_Model_caught 56 = .ok (.lload_n 1, 1) := by decide +kernel
theorem d_Model_caught_57 : decode b_Model_caught 57 = .ok (.lastore, 1) := by decide +kernel
theorem d_Model_caught_58 : decode b_Model_caught 58 = .ok (.aload_n 0, 1) := by decide +kernel
theorem d_Model_caught_59 : decode b_Model_caught 59 = .ok (.dup, 1) := by decide +kernel
theorem d_Model_caught_60 : decode b_Model_caught 60 = .ok (.getfield 571, 3) := by decide +kernel
theorem d_Model_caught_63 : decode b_Model_caught 63 = .ok (.iconst 1, 1) := by decide +kernel
theorem d_Model_caught_64 : decode b_Model_caught 64 = .ok (.iadd, 1) := by decide +kernel
theorem d_Model_caught_65 : decode b_Model_caught 65 = .ok (.putfield 571, 3) := by decide +kernel
theorem d_Model_caught_68 : decode b_Model_caught 68 = .ok (.aload_n 0, 1) := by decide +kernel
theorem d_Model_caught_69 : decode b_Model_caught 69 = .ok (.lload_n 3, 1) := by decide +kernel
theorem d_Model_caught_70 : decode b_Model_caught 70 = .ok (.iconst 1, 1) := by decide +kernel
theorem d_Model_caught_71 : decode b_Model_caught 71 = .ok (.invokevirtual 649, 3) := by decide +kernel
theorem d_Model_caught_74 : decode b_Model_caught 74 = .ok (.lstore 13, 2) := by decide +kernel
theorem d_Model_caught_76 : decode b_Model_caught 76 = .ok (.aload_n 0, 1) := by decide +kernel
theorem d_Model_caught_77 : decode b_Model_caught 77 = .ok (.getfield 559, 3) := by decide +kernel
theorem d_Model_caught_80 : decode b_Model_caught 80 = .ok (.iconst 1, 1) := by decide +kernel
theorem d_Model_caught_81 : decode b_Model_caught 81 = .ok (.if_icmp .ne 7, 3) := by decide +kernel
theorem d_Model_caught_84 : decode b_Model_caught 84 = .ok (.ldc2_w 7, 3) := by decide +kernel
theorem d_Model_caught_87 : decode b_Model_caught 87 = .ok (.lreturn, 1) := by decide +kernel
theorem d_Model_caught_88 : decode b_Model_caught 88 = .ok (.aload_n 0, 1) := by decide +kernel
theorem d_Model_caught_89 : decode b_Model_caught 89 = .ok (.dup, 1) := by decide +kernel
theorem d_Model_caught_90 : decode b_Model_caught 90 = .ok (.getfield 571, 3) := by decide +kernel
theorem d_Model_caught_93 : decode b_Model_caught 93 = .ok (.iconst 1, 1) := by decide +kernel
theorem d_Model_caught_94 : decode b_Model_caught 94 = .ok (.isub, 1) := by decide +kernel
theorem d_Model_caught_95 : decode b_Model_caught 95 = .ok (.putfield 571, 3) := by decide +kernel
theorem d_Model_caught_98 : decode b_Model_caught 98 = .ok (.aload_n 0, 1) := by decide +kernel
theorem d_Model_caught_99 : decode b_Model_caught 99 = .ok (.getfield 559, 3) := by decide +kernel
theorem d_Model_caught_102 : decode b_Model_caught 102 = .ok (.iconst 3, 1) := by decide +kernel
theorem d_Model_caught_103 : decode b_Model_caught 103 = .ok (.if_icmp .ne 25, 3) := by decide +kernel
theorem d_Model_caught_106 : decode b_Model_caught 106 = .ok (.aload_n 0, 1) := by decide +kernel
theorem d_Model_caught_107 : decode b_Model_caught 107 = .ok (.aload_n 0, 1) := by decide +kernel
theorem d_Model_caught_108 : decode b_Model_caught 108 = .ok (.getfield 655, 3) := by decide +kernel
theorem d_Model_caught_111 : decode b_Model_caught 111 = .ok (.invokestatic 64, 3) := by decide +kernel
theorem d_Model_caught_114 : decode b_Model_caught 114 = .ok (.lload_n 1, 1) := by decide +kernel
theorem d_Model_caught_115 : decode b_Model_caught 115 = .ok (.invokestatic 64, 3) := by decide +kernel
theorem d_Model_caught_118 : decode b_Model_caught 118 = .ok (.invokevirtual 91, 3) := by decide +kernel
theorem d_Model_caught_121 : decode b_Model_caught 121 = .ok (.ifCond .eq 7, 3) := by decide +kernel
theorem d_Model_caught_124 : decode b_Model_caught 124 = .ok (.iconst 1, 1) := by decide +kernel
theorem d_Model_caught_125 : decode b_Model_caught 125 = .ok (.goto 4, 3) := by decide +kernel
theorem d_Model_caught_128 : decode b_Model_caught 128 = .ok (.iconst 0, 1) := by decide +kernel
theorem d_Model_caught_129 : decode b_Model_caught 129 = .ok (.istore 15, 2) := by decide +kernel
theorem d_Model_caught_131 : decode b_Model_caught 131 = .ok (.aload_n 0, 1) := by decide +kernel
theorem d_Model_caught_132 : decode b_Model_caught 132 = .ok (.getfield 559, 3) := by decide +kernel
theorem d_Model_caught_135 : decode b_Model_caught 135 = .ok (.iconst 2, 1) := by decide +kernel
theorem d_Model_caught_136 : decode b_Model_caught 136 = .ok (.if_icmp .ne 28, 3) := by decide +kernel
theorem d_Model_caught_139 : decode b_Model_caught 139 = .ok (.aload_n 0, 1) := by decide +kernel
theorem d_Model_caught_140 : decode b_Model_caught 140 = .ok (.lload_n 1, 1) := by decide +kernel
theorem d_Model_caught_141 : decode b_Model_caught 141 = .ok (.invokestatic 64, 3) := by decide +kernel
theorem d_Model_caught_144 : decode b_Model_caught 144 = .ok (.ldc_w 658, 3) := by decide +kernel
theorem d_Model_caught_147 : decode b_Model_caught 147 = .ok (.invokevirtual 473, 3) := by decide +kernel
theorem d_Model_caught_150 : decode b_Model_caught 150 = .ok (.ifCond .eq 14, 3) := by decide +kernel
theorem d_Model_caught_153 : decode b_Model_caught 153 = .ok (.iconst 1, 1) := by decide +kernel
theorem d_Model_caught_154 : decode b_Model_caught 154 = .ok (.istore 15, 2) := by decide +kernel
theorem d_Model_caught_156 : decode b_Model_caught 156 = .ok (.aload_n 0, 1) := by decide +kernel
theorem d_Model_caught_157 : decode b_Model_caught 157 = .ok (.aload_n 0, 1) := by decide +kernel
theorem d_Model_caught_158 : decode b_Model_caught 158 = .ok (.getfield 599, 3) := by decide +kernel
theorem d_Model_caught_161 : decode b_Model_caught 161 = .ok (.putfield 553, 3) := by decide +kernel
theorem d_Model_caught_164 : decode b_Model_caught 164 = .ok (.iload 15, 2) := by decide +kernel
theorem d_Model_caught_166 : decode b_Model_caught 166 = .ok (.ifCond .eq 60, 3) := by decide +kernel
theorem d_Model_caught_169 : decode b_Model_caught 169 = .ok (.aload_n 0, 1) := by decide +kernel
theorem d_Model_caught_170 : decode b_Model_caught 170 = .ok (.iconst 0, 1) := by decide +kernel
theorem d_Model_caught_171 : decode b_Model_caught 171 = .ok (.putfield 559, 3) := by decide +kernel
theorem d_Model_caught_174 : decode b_Model_caught 174 = .ok (.aload_n 0, 1) := by decide +kernel
theorem d_Model_caught_175 : decode b_Model_caught 175 = .ok (.iload 5, 2) := by decide +kernel
theorem d_Model_caught_177 : decode b_Model_caught 177 = .ok (.putfield 535, 3) := by decide +kernel
theorem d_Model_caught_180 : decode b_Model_caught 180 = .ok (.aload_n 0, 1) := by decide +kernel
theorem d_Model_caught_181 : decode b_Model_caught 181 = .ok (.iload 6, 2) := by decide +kernel
theorem d_Model_caught_183 : decode b_Model_caught 183 = .ok (.putfield 532, 3) := by decide +kernel
theorem d_Model_caught_186 : decode b_Model_caught 186 = .ok (.aload_n 0, 1) := by decide +kernel
theorem d_Model_caught_187 : decode b_Model_caught 187 = .ok (.iload 7, 2) := by decide +kernel
theorem d_Model_caught_189 : decode b_Model_caught 189 = .ok (.putfield 538, 3) := by decide +kernel
theorem d_Model_caught_192 : decode b_Model_caught 192 = .ok (.aload_n 0, 1) := by decide +kernel
theorem d_Model_caught_193 : decode b_Model_caught 193 = .ok (.iload 8, 2) := by decide +kernel
theorem d_Model_caught_195 : decode b_Model_caught 195 = .ok (.putfield 565, 3) := by decide +kernel
theorem d_Model_caught_198 : decode b_Model_caught 198 = .ok (.aload_n 0, 1) := by decide +kernel
theorem d_Model_caught_199 : decode b_Model_caught 199 = .ok (.iload 9, 2) := by decide +kernel
theorem d_Model_caught_201 : decode b_Model_caught 201 = .ok (.putfield 568, 3) := by decide +kernel
theorem d_Model_caught_204 : decode b_Model_caught 204 = .ok (.aload_n 0, 1) := by decide +kernel
theorem d_Model_caught_205 : decode b_Model_caught 205 = .ok (.iload 10, 2) := by decide +kernel
theorem d_Model_caught_207 : decode b_Model_caught 207 = .ok (.putfield 562, 3) := by decide +kernel
theorem d_Model_caught_210 : decode b_Model_caught 210 = .ok (.aload_n 0, 1) := by decide +kernel
theorem d_Model_caught_211 : decode b_Model_caught 211 = .ok (.iload 11, 2) := by decide +kernel
theorem d_Model_caught_213 : decode b_Model_caught 213 = .ok (.putfield 587, 3) := by decide +kernel
theorem d_Model_caught_216 : decode b_Model_caught 216 = .ok (.aload_n 0, 1) := by decide +kernel
theorem d_Model_caught_217 : decode b_Model_caught 217 = .ok (.iload 12, 2) := by decide +kernel
theorem d_Model_caught_219 : decode b_Model_caught 219 = .ok (.putfield 590, 3) := by decide +kernel
theorem d_Model_caught_222 : decode b_Model_caught 222 = .ok (.ldc2_w 7, 3) := by decide +kernel
theorem d_Model_caught_225 : decode b_Model_caught 225 = .ok (.lreturn, 1) := by decide +kernel
theorem d_Model_caught_226 : decode b_Model_caught 226 = .ok (.lload 13, 2) := by decide +kernel
theorem d_Model_caught_228 : decode b_Model_caught 228 = .ok (.lreturn, 1) := by decide +kernel
abbrev GB : Type := ((Nat → Int32) → (Nat → Int64) → (Nat → Nat → Int32) → (Nat → Nat → Int64) → Int32 → Option ((Nat → Int32) × (Nat → Int64) × (Nat → Nat → Int32) × (Nat → Nat → Int64) × Int64)) × ((Nat → Int32) → (Nat → Int64) → (Nat → Nat → Int32) → (Nat → Nat → Int64) → Int32 → Int32 → Int32 → Int64 → Option ((Nat → Int32) × (Nat → Int64) × (Nat → Nat → Int32) × (Nat → Nat → Int64) × Int64)) × ((Nat → Int32) → (Nat → Int64) → (Nat → Nat → Int32) → (Nat → Nat → Int64) → Int64 → Int32 → Option ((Nat → Int32) × (Nat → Int64) × (Nat → Nat → Int32) × (Nat → Nat → Int64) × Int64)) × ((Nat → Int32) → (Nat → Int64) → (Nat → Nat → Int32) → (Nat → Nat → Int64) → Int64 → Int32 → Option ((Nat → Int32) × (Nat → Int64) × (Nat → Nat → Int32) × (Nat → Nat → Int64) × Int64)) × ((Nat → Int32) → (Nat → Int64) → (Nat → Nat → Int32) → (Nat → Nat → Int64) → Int32 → Int32 → Option ((Nat → Int32) × (Nat → Int64) × (Nat → Nat → Int32) × (Nat → Nat → Int64) × Int64)) × ((Nat → Int32) → (Nat → Int64) → (Nat → Nat → Int32) → (Nat → Nat → Int64) → Int32 → Int64 → Int64 → Int64 → Option ((Nat → Int32) × (Nat → Int64) × (Nat → Nat → Int32) × (Nat → Nat → Int64) × Int64)) × ((Nat → Int32) → (Nat → Int64) → (Nat → Nat → Int32) → (Nat → Nat → Int64) → Int32 → Int64 → Option ((Nat → Int32) × (Nat → Int64) × (Nat → Nat → Int32) × (Nat → Nat → Int64) × Int64)) × ((Nat → Int32) → (Nat → Int64) → (Nat → Nat → Int32) → (Nat → Nat → Int64) → Int64 → Int64 → Option ((Nat → Int32) × (Nat → Int64) × (Nat → Nat → Int32) × (Nat → Nat → Int64) × Int64)) × ((Nat → Int32) → (Nat → Int64) → (Nat → Nat → Int32) → (Nat → Nat → Int64) → Int64 → Int64 → Int32 → Option ((Nat → Int32) × (Nat → Int64) × (Nat → Nat → Int32) × (Nat → Nat → Int64) × Int64)) × ((Nat → Int32) → (Nat → Int64) → (Nat → Nat → Int32) → (Nat → Nat → Int64) → Int32 → Int64 → Option ((Nat → Int32) × (Nat → Int64) × (Nat → Nat → Int32) × (Nat → Nat → Int64) × Int64)) × ((Nat → Int32) → (Nat → Int64) → (Nat → Nat → Int32) → (Nat → Nat → Int64) → Int64 → Int64 → Option ((Nat → Int32) × (Nat → Int64) × (Nat → Nat → Int32) × (Nat → Nat → Int64) × Int64))
abbrev gR (d : Nat) : Room := { frames := d + 8, cells := 0, slots := 0, locals := d * 37 + 189 }
abbrev gA (f k d : Nat) : Room := { frames := d + f, cells := 0, slots := 0, locals := d * 37 + k }
theorem gR_up {d L : Nat} (h : 8 + (L + 11) ≤ 37) : (gR d).frames + 1 ≤ (gR (d + 1)).frames ∧ 8 + (L + 11) + (gR d).locals ≤ (gR (d + 1)).locals := ⟨by show d + 8 + 1 ≤ d + 1 + 8; omega, by show 8 + (L + 11) + (d * 37 + 189) ≤ (d + 1) * 37 + 189; omega⟩
theorem gR_fit (d : Nat) {f x y : Nat} (h1 : f + 1 ≤ 8) (h2 : x + y ≤ 189) : f + 1 ≤ (gR d).frames ∧ x + y ≤ (gR d).locals := ⟨by show f + 1 ≤ d + 8; omega, by show x + y ≤ d * 37 + 189; omega⟩
theorem gA_up {d f k L : Nat} (h1 : 8 + 1 ≤ f) (h : 8 + (L + 11) + 189 ≤ k) (_ : True) : (gR d).frames + 1 ≤ (gA f k d).frames ∧ 8 + (L + 11) + (gR d).locals ≤ (gA f k d).locals := ⟨by show d + 8 + 1 ≤ d + f; omega, by show 8 + (L + 11) + (d * 37 + 189) ≤ d * 37 + k; omega⟩
theorem gA_upA {d f k f2 k2 L : Nat} (h1 : f2 + 1 ≤ f) (h : 8 + (L + 11) + k2 ≤ k) : (gA f2 k2 d).frames + 1 ≤ (gA f k d).frames ∧ 8 + (L + 11) + (gA f2 k2 d).locals ≤ (gA f k d).locals := ⟨by show d + f2 + 1 ≤ d + f; omega, by show 8 + (L + 11) + (d * 37 + k2) ≤ d * 37 + k; omega⟩
theorem gA_fit {d f k f2 x y : Nat} (h1 : f2 + 1 ≤ f) (h : x + y ≤ k) : f2 + 1 ≤ (gA f k d).frames ∧ x + y ≤ (gA f k d).locals := ⟨by show f2 + 1 ≤ d + f; omega, by show x + y ≤ d * 37 + k; omega⟩
def GH (l : Launch) (dC : Nat → ClassId) (dI : Nat → Nat → Nat) (cI cJ cB : ClassId) (adK adV adA : Nat → Nat) (h : Nat) (v : Nat → Nat) (n : Nat) (G : GB) (d : Nat) : Prop := (∀ (sz : Nat) (i : Nat → Int32) (j : Nat → Int64) (a : Nat → Nat → Int32) (b : Nat → Nat → Int64) (v1 : Int32) (i2 : Nat → Int32) (j2 : Nat → Int64) (a2 : Nat → Nat → Int32) (b2 : Nat → Nat → Int64) (r2 : Int64), G.1 i j a b v1 = some (i2, j2, a2, b2, r2) → Met l y_Model_eval w_Model_eval (gR d) (va_Pc [.ref h, .int v1] (yE dC dI cI cJ cB adK adV adA h v i j a b sz)) (va_Ql (xR r2) (yB dC dI cI cJ cB h v i2 j2 a2 b2 (va_A (MW cI cJ cB h v i j a b) sz)) (va_A (MW cI cJ cB h v i j a b) sz)) 0 0 (va_A (MW cI cJ cB h v i j a b) sz)) ∧ (∀ (sz : Nat) (i : Nat → Int32) (j : Nat → Int64) (a : Nat → Nat → Int32) (b : Nat → Nat → Int64) (v1 : Int32) (v2 : Int32) (v3 : Int32) (v4 : Int64) (i2 : Nat → Int32) (j2 : Nat → Int64) (a2 : Nat → Nat → Int32) (b2 : Nat → Nat → Int64) (r2 : Int64), G.2.1 i j a b v1 v2 v3 v4 = some (i2, j2, a2, b2, r2) → Met l y_Model_called w_Model_called (gR d) (va_Pc [.ref h, .int v1, .int v2, .int v3, .long v4] (yE dC dI cI cJ cB adK adV adA h v i j a b sz)) (va_Ql (xR r2) (yB dC dI cI cJ cB h v i2 j2 a2 b2 (va_A (MW cI cJ cB h v i j a b) sz)) (va_A (MW cI cJ cB h v i j a b) sz)) 0 0 (va_A (MW cI cJ cB h v i j a b) sz)) ∧ (∀ (sz : Nat) (i : Nat → Int32) (j : Nat → Int64) (a : Nat → Nat → Int32) (b : Nat → Nat → Int64) (v1 : Int64) (v3 : Int32) (i2 : Nat → Int32) (j2 : Nat → Int64) (a2 : Nat → Nat → Int32) (b2 : Nat → Nat → Int64) (r2 : Int64), G.2.2.1 i j a b v1 v3 = some (i2, j2, a2, b2, r2) → Met l y_Model_ran w_Model_ran (gR d) (va_Pc [.ref h, .long v1, .int v3] (yE dC dI cI cJ cB adK adV adA h v i j a b sz)) (va_Ql (xR r2) (yB dC dI cI cJ cB h v i2 j2 a2 b2 (va_A (MW cI cJ cB h v i j a b) sz)) (va_A (MW cI cJ cB h v i j a b) sz)) 0 0 (va_A (MW cI cJ cB h v i j a b) sz)) ∧ (∀ (sz : Nat) (i : Nat → Int32) (j : Nat → Int64) (a : Nat → Nat → Int32) (b : Nat → Nat → Int64) (v1 : Int64) (v3 : Int32) (i2 : Nat → Int32) (j2 : Nat → Int64) (a2 : Nat → Nat → Int32) (b2 : Nat → Nat → Int64) (r2 : Int64), G.2.2.2.1 i j a b v1 v3 = some (i2, j2, a2, b2, r2) → Met l y_Model_runs w_Model_runs (gR d) (va_Pc [.ref h, .long v1, .int v3] (yE dC dI cI cJ cB adK adV adA h v i j a b sz)) (va_Ql (xR r2) (yB dC dI cI cJ cB h v i2 j2 a2 b2 (va_A (MW cI cJ cB h v i j a b) sz)) (va_A (MW cI cJ cB h v i j a b) sz)) 0 0 (va_A (MW cI cJ cB h v i j a b) sz)) ∧ (∀ (sz : Nat) (i : Nat → Int32) (j : Nat → Int64) (a : Nat → Nat → Int32) (b : Nat → Nat → Int64) (v1 : Int32) (v2 : Int32) (i2 : Nat → Int32) (j2 : Nat → Int64) (a2 : Nat → Nat → Int32) (b2 : Nat → Nat → Int64) (r2 : Int64), G.2.2.2.2.1 i j a b v1 v2 = some (i2, j2, a2, b2, r2) → Met l y_Model_applied w_Model_applied (gR d) (va_Pc [.ref h, .int v1, .int v2] (yE dC dI cI cJ cB adK adV adA h v i j a b sz)) (va_Ql (xR r2) (yB dC dI cI cJ cB h v i2 j2 a2 b2 (va_A (MW cI cJ cB h v i j a b) sz)) (va_A (MW cI cJ cB h v i j a b) sz)) 0 0 (va_A (MW cI cJ cB h v i j a b) sz)) ∧ (∀ (sz : Nat) (i : Nat → Int32) (j : Nat → Int64) (a : Nat → Nat → Int32) (b : Nat → Nat → Int64) (v1 : Int32) (v2 : Int64) (v4 : Int64) (v6 : Int64) (i2 : Nat → Int32) (j2 : Nat → Int64) (a2 : Nat → Nat → Int32) (b2 : Nat → Nat → Int64) (r2 : Int64), G.2.2.2.2.2.1 i j a b v1 v2 v4 v6 = some (i2, j2, a2, b2, r2) → Met l y_Model_running w_Model_running (gR d) (va_Pc [.ref h, .int v1, .long v2, .long v4, .long v6] (yE dC dI cI cJ cB adK adV adA h v i j a b sz)) (va_Ql (xR r2) (yB dC dI cI cJ cB h v i2 j2 a2 b2 (va_A (MW cI cJ cB h v i j a b) sz)) (va_A (MW cI cJ cB h v i j a b) sz)) 0 0 (va_A (MW cI cJ cB h v i j a b) sz)) ∧ (∀ (sz : Nat) (i : Nat → Int32) (j : Nat → Int64) (a : Nat → Nat → Int32) (b : Nat → Nat → Int64) (v1 : Int32) (v2 : Int64) (i2 : Nat → Int32) (j2 : Nat → Int64) (a2 : Nat → Nat → Int32) (b2 : Nat → Nat → Int64) (r2 : Int64), G.2.2.2.2.2.2.1 i j a b v1 v2 = some (i2, j2, a2, b2, r2) → Met l y_Model_repeated w_Model_repeated (gR d) (va_Pc [.ref h, .int v1, .long v2] (yE dC dI cI cJ cB adK adV adA h v i j a b sz)) (va_Ql (xR r2) (yB dC dI cI cJ cB h v i2 j2 a2 b2 (va_A (MW cI cJ cB h v i j a b) sz)) (va_A (MW cI cJ cB h v i j a b) sz)) 0 0 (va_A (MW cI cJ cB h v i j a b) sz)) ∧ (∀ (sz : Nat) (i : Nat → Int32) (j : Nat → Int64) (a : Nat → Nat → Int32) (b : Nat → Nat → Int64) (v1 : Int64) (v3 : Int64) (i2 : Nat → Int32) (j2 : Nat → Int64) (a2 : Nat → Nat → Int32) (b2 : Nat → Nat → Int64) (r2 : Int64), G.2.2.2.2.2.2.2.1 i j a b v1 v3 = some (i2, j2, a2, b2, r2) → Met l y_Model_whiled w_Model_whiled (gR d) (va_Pc [.ref h, .long v1, .long v3] (yE dC dI cI cJ cB adK adV adA h v i j a b sz)) (va_Ql (xR r2) (yB dC dI cI cJ cB h v i2 j2 a2 b2 (va_A (MW cI cJ cB h v i j a b) sz)) (va_A (MW cI cJ cB h v i j a b) sz)) 0 0 (va_A (MW cI cJ cB h v i j a b) sz)) ∧ (∀ (sz : Nat) (i : Nat → Int32) (j : Nat → Int64) (a : Nat → Nat → Int32) (b : Nat → Nat → Int64) (v1 : Int64) (v3 : Int64) (v5 : Int32) (i2 : Nat → Int32) (j2 : Nat → Int64) (a2 : Nat → Nat → Int32) (b2 : Nat → Nat → Int64) (r2 : Int64), G.2.2.2.2.2.2.2.2.1 i j a b v1 v3 v5 = some (i2, j2, a2, b2, r2) → Met l y_Model_forEach w_Model_forEach (gR d) (va_Pc [.ref h, .long v1, .long v3, .int v5] (yE dC dI cI cJ cB adK adV adA h v i j a b sz)) (va_Ql (xR r2) (yB dC dI cI cJ cB h v i2 j2 a2 b2 (va_A (MW cI cJ cB h v i j a b) sz)) (va_A (MW cI cJ cB h v i j a b) sz)) 0 0 (va_A (MW cI cJ cB h v i j a b) sz)) ∧ (∀ (sz : Nat) (i : Nat → Int32) (j : Nat → Int64) (a : Nat → Nat → Int32) (b : Nat → Nat → Int64) (v1 : Int32) (v2 : Int64) (i2 : Nat → Int32) (j2 : Nat → Int64) (a2 : Nat → Nat → Int32) (b2 : Nat → Nat → Int64) (r2 : Int64), G.2.2.2.2.2.2.2.2.2.1 i j a b v1 v2 = some (i2, j2, a2, b2, r2) → Met l y_Model_asked w_Model_asked (gR d) (va_Pc [.ref h, .int v1, .long v2] (yE dC dI cI cJ cB adK adV adA h v i j a b sz)) (va_Ql (xR r2) (yB dC dI cI cJ cB h v i2 j2 a2 b2 (va_A (MW cI cJ cB h v i j a b) sz)) (va_A (MW cI cJ cB h v i j a b) sz)) 0 0 (va_A (MW cI cJ cB h v i j a b) sz)) ∧ (∀ (sz : Nat) (i : Nat → Int32) (j : Nat → Int64) (a : Nat → Nat → Int32) (b : Nat → Nat → Int64) (v1 : Int64) (v3 : Int64) (i2 : Nat → Int32) (j2 : Nat → Int64) (a2 : Nat → Nat → Int32) (b2 : Nat → Nat → Int64) (r2 : Int64), G.2.2.2.2.2.2.2.2.2.2 i j a b v1 v3 = some (i2, j2, a2, b2, r2) → Met l y_Model_caught w_Model_caught (gR d) (va_Pc [.ref h, .long v1, .long v3] (yE dC dI cI cJ cB adK adV adA h v i j a b sz)) (va_Ql (xR r2) (yB dC dI cI cJ cB h v i2 j2 a2 b2 (va_A (MW cI cJ cB h v i j a b) sz)) (va_A (MW cI cJ cB h v i j a b) sz)) 0 0 (va_A (MW cI cJ cB h v i j a b) sz))
def m_Model_eval_b767 (n : Nat) (G : GB) (rc_587 : (Nat → Int32) → (Nat → Int64) → (Nat → Nat → Int32) → (Nat → Nat → Int64) → Int32 → Int64 → Int32 → Option ((Nat → Int32) × (Nat → Int64) × (Nat → Nat → Int32) × (Nat → Nat → Int64) × Int64)) (i : Nat → Int32) (j : Nat → Int64) (a : Nat → Nat → Int32) (b : Nat → Nat → Int64) (v1 : Int32) (s0 : Int64) : Option ((Nat → Int32) × (Nat → Int64) × (Nat → Nat → Int32) × (Nat → Nat → Int64) × Int64) := if ((i 102)) = ((0 : Int32)) then ob0 (m_Model_signAhead n i j a b v1) (fun r_3 => rc_587 i j a b v1 s0 r_3) else some (i, j, a, b, 3)
set_option maxHeartbeats 4000000 in
set_option maxRecDepth 100000 in
theorem lb_Model_eval_767 (d : Nat) (G : GB) (l : Launch) (dC : Nat → ClassId) (dI : Nat → Nat → Nat) (cI cJ cB : ClassId) (adK adV adA : Nat → Nat) (h : Nat) (v : Nat → Nat) (n : Nat) (HG : GH l dC dI cI cJ cB adK adV adA h v n G d) {p : Program} {e : Env} {s : State} {m : MethodId} {args : Array Value} {below : List Frame} {meth : Method} {c : Code} {A : Nat → Prop} (hx : p.tables.exec = Jvm.exec) (hb : c.code = b_Model_eval) (hml : c.maxLocals = 18) (hown : s.vm.findClass R_Model = some m.cls) (hts : ∀ w ∈ w_Model_eval, w.before args s = true) (hK : va_K (dC, dI) classes [(cI, .int), (cJ, .long), (cB, .byte)] s) (hE : tw_E adK adV adA A s s.heap) (hA : ∀ q : Nat, s.heap.size ≤ q → A q) (hr : meth.sig.returnType = (some .long)) (hlocks : meth.locks = false) {i2 : Nat → Int32} {j2 : Nat → Int64} {a2 : Nat → Nat → Int32} {b2 : Nat → Nat → Int64} {r2 : Int64} (rc_587 : (Nat → Int32) → (Nat → Int64) → (Nat → Nat → Int32) → (Nat → Nat → Int64) → Int32 → Int64 → Int32 → Option ((Nat → Int32) × (Nat → Int64) × (Nat → Nat → Int32) × (Nat → Nat → Int64) × Int64)) (Hrc_587 : ∀ (i : Nat → Int32) (j : Nat → Int64) (a : Nat → Nat → Int32) (b : Nat → Nat → Int64) (v1 : Int32) (v4 : Int64) (v6 : Int32), rc_587 i j a b v1 v4 v6 = some (i2, j2, a2, b2, r2) → ∀ (H : Heap) (locs : List Loc) (ls : Array Slot), va_P (dC, dI) classes (MW cI cJ cB h v i j a b) H → va_D A (MW cI cJ cB h v i j a b) → va_S A s.heap H locs → lv_has ls 18 [(0, .ref h), (1, .int v1), (4, .long v4), (6, .int v6)] → W p l e (gR (d + 1)) s m args below meth c H locs 0 0 (MQ below (va_Ql (xR r2) (yB dC dI cI cJ cB h v i2 j2 a2 b2 A) A) args s 0 0 A) (F0 m 587 ls [])) (i : Nat → Int32) (j : Nat → Int64) (a : Nat → Nat → Int32) (b : Nat → Nat → Int64) (v1 : Int32) (s0 : Int64) (hm : m_Model_eval_b767 n G rc_587 i j a b v1 s0 = some (i2, j2, a2, b2, r2)) : ∀ (H : Heap) (locs : List Loc) (ls : Array Slot), va_P (dC, dI) classes (MW cI cJ cB h v i j a b) H → va_D A (MW cI cJ cB h v i j a b) → va_S A s.heap H locs → lv_has ls 18 [(0, .ref h), (1, .int v1)] → W p l e (gR (d + 1)) s m args below meth c H locs 0 0 (MQ below (va_Ql (xR r2) (yB dC dI cI cJ cB h v i2 j2 a2 b2 A) A) args s 0 0 A) (F0 m 767 ls [.long s0]) := by
  have htt : ∀ w ∈ tw_T, w.before _ s = true := fun w h => hts w (List.mem_cons_of_mem _ h)
  intro H locs ls hP hD hS hl
  rw [m_Model_eval_b767] at hm
  refine lv_lstore (lv' := [(4, .long s0), (0, .ref h), (1, .int v1)]) hx hb d_Model_eval_767 hl (by decide) rfl (fun ls hl => ?_)
  refine lv_aload_n hx hb d_Model_eval_769 rfl (lv_at hl 1 rfl) ?_
  refine va_get (D := (dC, dI)) (ci := 12) (v := .int (i 102)) (C := R_Model) (T := F_Model) (N := 127) hx hb htt iw_Model hown hK hP 0 yo_12 rfl 102 (Nat.le_of_ble_eq_true rfl) (htt _ lk_Model_559) (fun _ h9 => h9) yg_102 d_Model_eval_770 ?_
  refine lv_if_eq (tgt := 780) hx hb d_Model_eval_773 (by decide) (fun c_1 => ?_) (fun c_1 => ?_)
  · replace hm := if_t c_1 hm
    refine lv_aload_n hx hb d_Model_eval_780 rfl (lv_at hl 1 rfl) ?_
    refine lv_iload_n hx hb d_Model_eval_781 rfl (lv_at hl 2 rfl) ?_
    obtain ⟨r_3, h_2, hm⟩ := ob0_some hm
    have hFc := x_free0 hS hA
    refine va_calli (va_runV (As := [.int v1]) (rest := []) ⟨hx, hb, hml, hown, hts⟩ (x_Model_signAhead l dC dI cI cJ cB adK adV adA h v H.size n h_2) (cwV 1 hts (tw_GV tw_cons cw_Model_signAhead lk_Model_630 in_Model_signAhead sel_Model_signAhead ini_Model) rfl rfl rfl ⟨rfl, hd_Model_signAhead⟩ (gR_fit (d + 1) (Nat.le_of_ble_eq_true rfl) (Nat.le_of_ble_eq_true rfl))) (ypVr hK hP hS hE hFc yo_12 rfl) rfl rfl hl.1 rfl (lv_room (Nat.le_of_ble_eq_true rfl)) d_Model_eval_782 ⟨Nat.le_of_ble_eq_true rfl, Nat.le_of_ble_eq_true rfl⟩) hS (fun q _ h => hFc q h) hFc (fun r9 u9 t9 H locs ht hvm e9 hB hz1 hk1 hS => ?_)
    have e9 : r_3 = r9 := e9
    subst e9
    replace hP := x_keep hP hk1
    clear hFc hk1 hz1 hvm hB ht
    refine lv_istore (lv' := [(6, .int r_3), (4, .long s0), (0, .ref h), (1, .int v1)]) hx hb d_Model_eval_785 hl (by decide) rfl (fun ls hl => ?_)
    refine lv_goto (tgt := 587) hx hb d_Model_eval_787 (by decide) ?_
    exact Hrc_587 _ _ _ _ _ _ _ hm _ _ _ hP hD hS (lv_sub hl [2, 3, 1, 0] rfl)
  · replace hm := if_f c_1 hm
    refine lv_ldc2 (v := 3) hx hb hown (htt _ lk_Model_7) d_Model_eval_776 ?_
    obtain ⟨e1i, e1j, e1a, e1b, e3⟩ := re4m hm
    obtain ⟨hP, hD⟩ := y_eq e1i e1j e1a e1b hP hD
    exact W.lret hx hb hr (fun t9 ht hW => ⟨⟨_, (), rfl, e3.symm, by rw [ht]; exact hP, hD⟩, hS.F ht⟩) hS.2.2 d_Model_eval_779
def m_Model_eval_b587 (n : Nat) (G : GB) : Nat → (Nat → Int32) → (Nat → Int64) → (Nat → Nat → Int32) → (Nat → Nat → Int64) → Int32 → Int64 → Int32 → Option ((Nat → Int32) × (Nat → Int64) × (Nat → Nat → Int32) × (Nat → Nat → Int64) × Int64)
  | 0, _, _, _, _, _, _, _ => none
  | f + 1, i, j, a, b, v1, v4, v6 => if v6 ≤ ((0 : Int32)) then some (i, j, a, b, v4) else if ((lg_cmp v4 3)) = ((0 : Int32)) then om (m_Model_fails n i j a b (4 : Int32)) (fun i_56 j_57 a_58 b_59 r_60 => some (i_56, j_57, a_58, b_59, r_60)) else ck ((i 105)) 90000 (ck (((a 12 (i 105).toNatClampNeg) + (i 106))) 90000 (ob0 (m_Model_what n (b 10 ((a 12 (i 105).toNatClampNeg) + (i 106)).toNatClampNeg)) (fun r_6 => ck r_6 120000 (ck ((a 3 r_6.toNatClampNeg)) 300000 (ob1 (a 1 (a 3 r_6.toNatClampNeg).toNatClampNeg : Int32) (fun x_9 => ob1 ((i 106) + 1 : Int32) (fun x_10 => ob1 (upd i 106 x_10 : Nat → Int32) (fun i_11 => om (m_Model_waits n i_11 j a b) (fun i_13 j_14 a_15 b_16 r_17 => if r_17 = ((0 : Int32)) then some (i_13, j_14, a_15, b_16, 3) else ck ((i_13 107)) 36000 (ob1 (svl b_16 111 (i_13 107).toNatClampNeg v4 : Nat → Nat → Int64) (fun b_20 => ob1 ((i_13 107) + 1 : Int32) (fun x_21 => ob1 (upd i_13 107 x_21 : Nat → Int32) (fun i_22 => om (G.1 i_22 j_14 a_15 b_20 v6) (fun i_24 j_25 a_26 b_27 r_28 => if ((i_24 102)) = ((0 : Int32)) then if ((lg_cmp r_28 3)) = ((0 : Int32)) then om (m_Model_fails n i_24 j_25 a_26 b_27 (4 : Int32)) (fun i_50 j_51 a_52 b_53 r_54 => some (i_50, j_51, a_52, b_53, r_54)) else ob1 ((i_24 98) - 1 : Int32) (fun x_31 => ob1 (upd i_24 98 x_31 : Nat → Int32) (fun i_32 => ob1 ((i_32 107) - 1 : Int32) (fun x_33 => ob1 (upd i_32 107 x_33 : Nat → Int32) (fun i_34 => om (m_Model_begins n i_34 j_25 a_26 b_27) (fun i_36 j_37 a_38 b_39 r_40 => if r_40 = ((0 : Int32)) then m_Model_eval_b767 n G (m_Model_eval_b587 n G f) i_36 j_37 a_38 b_39 v1 (3 : Int64) else ck ((i_36 107)) 36000 (om (m_Model_binary n i_36 j_37 a_38 b_39 x_9 (b_39 111 (i_36 107).toNatClampNeg) r_28) (fun i_44 j_45 a_46 b_47 r_48 => m_Model_eval_b767 n G (m_Model_eval_b587 n G f) i_44 j_45 a_46 b_47 v1 r_48))))))) else some (i_24, j_25, a_26, b_27, 3)))))))))))))))
set_option maxHeartbeats 4000000 in
set_option maxRecDepth 100000 in
theorem lb_Model_eval_587 (d : Nat) (G : GB) (l : Launch) (dC : Nat → ClassId) (dI : Nat → Nat → Nat) (cI cJ cB : ClassId) (adK adV adA : Nat → Nat) (h : Nat) (v : Nat → Nat) (n : Nat) (HG : GH l dC dI cI cJ cB adK adV adA h v n G d) {p : Program} {e : Env} {s : State} {m : MethodId} {args : Array Value} {below : List Frame} {meth : Method} {c : Code} {A : Nat → Prop} (hx : p.tables.exec = Jvm.exec) (hb : c.code = b_Model_eval) (hml : c.maxLocals = 18) (hown : s.vm.findClass R_Model = some m.cls) (hts : ∀ w ∈ w_Model_eval, w.before args s = true) (hK : va_K (dC, dI) classes [(cI, .int), (cJ, .long), (cB, .byte)] s) (hE : tw_E adK adV adA A s s.heap) (hA : ∀ q : Nat, s.heap.size ≤ q → A q) (hr : meth.sig.returnType = (some .long)) (hlocks : meth.locks = false) {i2 : Nat → Int32} {j2 : Nat → Int64} {a2 : Nat → Nat → Int32} {b2 : Nat → Nat → Int64} {r2 : Int64} : ∀ (f : Nat) (i : Nat → Int32) (j : Nat → Int64) (a : Nat → Nat → Int32) (b : Nat → Nat → Int64) (v1 : Int32) (v4 : Int64) (v6 : Int32), m_Model_eval_b587 n G f i j a b v1 v4 v6 = some (i2, j2, a2, b2, r2) → ∀ (H : Heap) (locs : List Loc) (ls : Array Slot), va_P (dC, dI) classes (MW cI cJ cB h v i j a b) H → va_D A (MW cI cJ cB h v i j a b) → va_S A s.heap H locs → lv_has ls 18 [(0, .ref h), (1, .int v1), (4, .long v4), (6, .int v6)] → W p l e (gR (d + 1)) s m args below meth c H locs 0 0 (MQ below (va_Ql (xR r2) (yB dC dI cI cJ cB h v i2 j2 a2 b2 A) A) args s 0 0 A) (F0 m 587 ls []) := by
  have htt : ∀ w ∈ tw_T, w.before _ s = true := fun w h => hts w (List.mem_cons_of_mem _ h)
  intro f
  induction f with
  | zero =>
    intro i j a b v1 v4 v6 hm
    rw [m_Model_eval_b587] at hm
    cases hm
  | succ f ih =>
    intro i j a b v1 v4 v6 hm H locs ls hP hD hS hl
    rw [m_Model_eval_b587] at hm
    refine lv_iload hx hb d_Model_eval_587 (lv_at hl 3 rfl) ?_
    refine lv_if_le (tgt := 790) hx hb d_Model_eval_589 (by decide) (fun c_1 => ?_) (fun c_1 => ?_)
    · replace hm := if_t c_1 hm
      refine lv_lload hx hb d_Model_eval_790 (lv_at hl 2 rfl) ?_
      obtain ⟨e1i, e1j, e1a, e1b, e3⟩ := re4m hm
      obtain ⟨hP, hD⟩ := y_eq e1i e1j e1a e1b hP hD
      exact W.lret hx hb hr (fun t9 ht hW => ⟨⟨_, (), rfl, e3.symm, by rw [ht]; exact hP, hD⟩, hS.F ht⟩) hS.2.2 d_Model_eval_792
    · replace hm := if_f c_1 hm
      refine lv_lload hx hb d_Model_eval_592 (lv_at hl 2 rfl) ?_
      refine lv_ldc2 (v := 3) hx hb hown (htt _ lk_Model_7) d_Model_eval_594 ?_
      refine W.lcmp hx hb d_Model_eval_597 ?_
      refine lv_if_ne (tgt := 607) hx hb d_Model_eval_598 (by decide) (fun c_2 => ?_) (fun c_2 => ?_)
      · replace hm := if_f c_2 hm
        refine lv_aload_n hx hb d_Model_eval_607 rfl (lv_at hl 0 rfl) ?_
        refine va_get (D := (dC, dI)) (ci := 12) (v := .ref ((v 1))) (C := R_Model) (T := F_Model) (N := 127) hx hb htt iw_Model hown hK hP 0 yo_12 rfl 1 (Nat.le_of_ble_eq_true rfl) (htt _ lk_Model_67) (fun _ h9 => h9) yg_1 d_Model_eval_608 ?_
        refine lv_aload_n hx hb d_Model_eval_611 rfl (lv_at hl 0 rfl) ?_
        refine va_get (D := (dC, dI)) (ci := 12) (v := .ref ((v 3))) (C := R_Model) (T := F_Model) (N := 127) hx hb htt iw_Model hown hK hP 0 yo_12 rfl 3 (Nat.le_of_ble_eq_true rfl) (htt _ lk_Model_15) (fun _ h9 => h9) yg_3 d_Model_eval_612 ?_
        refine lv_aload_n hx hb d_Model_eval_615 rfl (lv_at hl 0 rfl) ?_
        refine va_get (D := (dC, dI)) (ci := 12) (v := .ref ((v 10))) (C := R_Model) (T := F_Model) (N := 127) hx hb htt iw_Model hown hK hP 0 yo_12 rfl 10 (Nat.le_of_ble_eq_true rfl) (htt _ lk_Model_35) (fun _ h9 => h9) yg_10 d_Model_eval_616 ?_
        refine lv_aload_n hx hb d_Model_eval_619 rfl (lv_at hl 0 rfl) ?_
        refine va_get (D := (dC, dI)) (ci := 12) (v := .ref ((v 12))) (C := R_Model) (T := F_Model) (N := 127) hx hb htt iw_Model hown hK hP 0 yo_12 rfl 12 (Nat.le_of_ble_eq_true rfl) (htt _ lk_Model_41) (fun _ h9 => h9) yg_12 d_Model_eval_620 ?_
        refine lv_aload_n hx hb d_Model_eval_623 rfl (lv_at hl 0 rfl) ?_
        refine va_get (D := (dC, dI)) (ci := 12) (v := .int (i 105)) (C := R_Model) (T := F_Model) (N := 127) hx hb htt iw_Model hown hK hP 0 yo_12 rfl 105 (Nat.le_of_ble_eq_true rfl) (htt _ lk_Model_587) (fun _ h9 => h9) yg_105 d_Model_eval_624 ?_
        obtain ⟨h_3, hm⟩ := ck_some hm
        refine va_iald hx hb hK hP 12 0 ya_12 rfl h_3 d_Model_eval_627 ?_
        refine lv_aload_n hx hb d_Model_eval_628 rfl (lv_at hl 0 rfl) ?_
        refine va_get (D := (dC, dI)) (ci := 12) (v := .int (i 106)) (C := R_Model) (T := F_Model) (N := 127) hx hb htt iw_Model hown hK hP 0 yo_12 rfl 106 (Nat.le_of_ble_eq_true rfl) (htt _ lk_Model_590) (fun _ h9 => h9) yg_106 d_Model_eval_629 ?_
        refine lv_iadd hx hb d_Model_eval_632 ?_
        obtain ⟨h_4, hm⟩ := ck_some hm
        refine va_lald hx hb hK hP 10 1 ya_10 rfl h_4 d_Model_eval_633 ?_
        obtain ⟨r_6, h_5, hm⟩ := ob0_some hm
        have hFc := x_free0 hS hA
        refine va_calli (va_runS (As := [.long (b 10 ((a 12 (i 105).toNatClampNeg) + (i 106)).toNatClampNeg)]) (rest := [.ref ((v 3)), .ref ((v 1))]) ⟨hx, hb, hml, hown, hts⟩ (x_Model_what l H.size n h_5) (va_cwS 1 hts (tw_GS tw_cons cw_Model_what lk_Model_64 st_Model_what ini_Model) rfl rfl rfl hd_Model_what (gR_fit (d + 1) (Nat.le_of_ble_eq_true rfl) (Nat.le_of_ble_eq_true rfl))) xpS0 rfl rfl hl.1 rfl (lv_room (Nat.le_of_ble_eq_true rfl)) d_Model_eval_634 ⟨Nat.le_of_ble_eq_true rfl, Nat.le_of_ble_eq_true rfl⟩) hS (fun q _ h => hFc q h) hFc (fun r9 u9 t9 H locs ht hvm e9 hB hz1 hk1 hS => ?_)
        have e9 : r_6 = r9 := e9
        subst e9
        replace hP := x_keep hP hk1
        clear hFc hk1 hz1 hvm hB ht
        obtain ⟨h_7, hm⟩ := ck_some hm
        refine va_iald hx hb hK hP 3 0 ya_3 rfl h_7 d_Model_eval_637 ?_
        obtain ⟨h_8, hm⟩ := ck_some hm
        refine va_bald hx hb hK hP 1 2 ya_1 rfl h_8 d_Model_eval_638 ?_
        refine lv_topi (fun x_9 ex_9 => ?_)
        replace hm := ob1_at ex_9 hm
        refine lv_istore (lv' := [(7, .int x_9), (0, .ref h), (1, .int v1), (4, .long v4), (6, .int v6)]) hx hb d_Model_eval_639 hl (by decide) rfl (fun ls hl => ?_)
        refine lv_aload_n hx hb d_Model_eval_641 rfl (lv_at hl 1 rfl) ?_
        refine lv_dup hx hb d_Model_eval_642 rfl ?_
        refine va_get (D := (dC, dI)) (ci := 12) (v := .int (i 106)) (C := R_Model) (T := F_Model) (N := 127) hx hb htt iw_Model hown hK hP 0 yo_12 rfl 106 (Nat.le_of_ble_eq_true rfl) (htt _ lk_Model_590) (fun _ h9 => h9) yg_106 d_Model_eval_643 ?_
        refine lv_iconst (v := 1) hx hb d_Model_eval_646 (by decide) ?_
        refine lv_iadd hx hb d_Model_eval_647 ?_
        refine lv_topi (fun x_10 ex_10 => ?_)
        replace hm := ob1_at ex_10 hm
        refine va_put (D := (dC, dI)) (ci := 12) (v := .int x_10) (ty := .int) (C := R_Model) (T := F_Model) (N := 127) hx hb htt iw_Model t_Model t_Model_ok n_Model hown hK hP hD hS 0 yo_12 rfl 106 (Nat.le_of_ble_eq_true rfl) (htt _ lk_Model_590) (fun _ h9 => h9) rfl (by decide +kernel) rfl rfl yl_106 d_Model_eval_648 (fun H locs hP hD hS => ?_)
        obtain ⟨i_11, ei_11⟩ : ∃ y9 : Nat → Int32, y9 = upd i 106 x_10 := ⟨_, rfl⟩
        replace hm := ob1_at ei_11 hm
        obtain ⟨hP, hD⟩ := yw_106 ei_11 hP hD
        refine lv_aload_n hx hb d_Model_eval_651 rfl (lv_at hl 1 rfl) ?_
        obtain ⟨i_13, j_14, a_15, b_16, r_17, h_12, hm⟩ := om_some hm
        have hFc := x_free hD hS hA
        refine va_calli (va_runV (As := []) (rest := []) ⟨hx, hb, hml, hown, hts⟩ (x_Model_waits l dC dI cI cJ cB adK adV adA h v H.size n h_12) (cwV 0 hts (tw_GV tw_cons cw_Model_waits lk_Model_608 in_Model_waits sel_Model_waits ini_Model) rfl rfl rfl ⟨rfl, hd_Model_waits⟩ (gR_fit (d + 1) (Nat.le_of_ble_eq_true rfl) (Nat.le_of_ble_eq_true rfl))) (ypV hK hP hD hS hE hFc yo_12 rfl) rfl rfl hl.1 rfl (lv_room (Nat.le_of_ble_eq_true rfl)) d_Model_eval_652 ⟨Nat.le_of_ble_eq_true rfl, Nat.le_of_ble_eq_true rfl⟩) hS (fun q _ h => hFc q h) hFc (fun r9 u9 t9 H locs ht hvm e9 hB hz1 hk1 hS => ?_)
        have e9 : r_17 = r9 := e9
        subst e9
        obtain ⟨hP, hD⟩ := y_aft hB ht hFc
        clear hFc hk1 hz1 hvm hB ht
        refine lv_if_ne (tgt := 662) hx hb d_Model_eval_655 (by decide) (fun c_18 => ?_) (fun c_18 => ?_)
        · replace hm := if_f c_18 hm
          refine lv_aload_n hx hb d_Model_eval_662 rfl (lv_at hl 1 rfl) ?_
          refine va_get (D := (dC, dI)) (ci := 12) (v := .ref ((v 111))) (C := R_Model) (T := F_Model) (N := 127) hx hb htt iw_Model hown hK hP 0 yo_12 rfl 111 (Nat.le_of_ble_eq_true rfl) (htt _ lk_Model_301) (fun _ h9 => h9) yg_111 d_Model_eval_663 ?_
          refine lv_aload_n hx hb d_Model_eval_666 rfl (lv_at hl 1 rfl) ?_
          refine va_get (D := (dC, dI)) (ci := 12) (v := .int (i_13 107)) (C := R_Model) (T := F_Model) (N := 127) hx hb htt iw_Model hown hK hP 0 yo_12 rfl 107 (Nat.le_of_ble_eq_true rfl) (htt _ lk_Model_562) (fun _ h9 => h9) yg_107 d_Model_eval_667 ?_
          refine lv_lload hx hb d_Model_eval_670 (lv_at hl 3 rfl) ?_
          obtain ⟨h_19, hm⟩ := ck_some hm
          refine va_last hx hb hK hP hD hS 61 1 ya_111 rfl h_19 d_Model_eval_672 (fun H locs hP hD hS => ?_)
          obtain ⟨b_20, eb_20⟩ : ∃ y9 : Nat → Nat → Int64, y9 = svl b_16 111 (i_13 107).toNatClampNeg v4 := ⟨_, rfl⟩
          replace hm := ob1_at eb_20 hm
          obtain ⟨hP, hD⟩ := yv_111 eb_20 hP hD
          refine lv_aload_n hx hb d_Model_eval_673 rfl (lv_at hl 1 rfl) ?_
          refine lv_dup hx hb d_Model_eval_674 rfl ?_
          refine va_get (D := (dC, dI)) (ci := 12) (v := .int (i_13 107)) (C := R_Model) (T := F_Model) (N := 127) hx hb htt iw_Model hown hK hP 0 yo_12 rfl 107 (Nat.le_of_ble_eq_true rfl) (htt _ lk_Model_562) (fun _ h9 => h9) yg_107 d_Model_eval_675 ?_
          refine lv_iconst (v := 1) hx hb d_Model_eval_678 (by decide) ?_
          refine lv_iadd hx hb d_Model_eval_679 ?_
          refine lv_topi (fun x_21 ex_21 => ?_)
          replace hm := ob1_at ex_21 hm
          refine va_put (D := (dC, dI)) (ci := 12) (v := .int x_21) (ty := .int) (C := R_Model) (T := F_Model) (N := 127) hx hb htt iw_Model t_Model t_Model_ok n_Model hown hK hP hD hS 0 yo_12 rfl 107 (Nat.le_of_ble_eq_true rfl) (htt _ lk_Model_562) (fun _ h9 => h9) rfl (by decide +kernel) rfl rfl yl_107 d_Model_eval_680 (fun H locs hP hD hS => ?_)
          obtain ⟨i_22, ei_22⟩ : ∃ y9 : Nat → Int32, y9 = upd i_13 107 x_21 := ⟨_, rfl⟩
          replace hm := ob1_at ei_22 hm
          obtain ⟨hP, hD⟩ := yw_107 ei_22 hP hD
          refine lv_aload_n hx hb d_Model_eval_683 rfl (lv_at hl 1 rfl) ?_
          refine lv_iload hx hb d_Model_eval_684 (lv_at hl 4 rfl) ?_
          obtain ⟨i_24, j_25, a_26, b_27, r_28, h_23, hm⟩ := om_some hm
          have hFc := x_free hD hS hA
          refine va_calll (va_runV (As := [.int v6]) (rest := []) ⟨hx, hb, hml, hown, hts⟩ (HG.1 H.size _ _ _ _ _ _ _ _ _ _ h_23) (cwV 1 hts (tw_GV tw_cons cw_Model_eval lk_Model_593 in_Model_eval sel_Model_eval ini_Model) rfl rfl rfl ⟨rfl, hd_Model_eval⟩ (gR_up (by decide))) (ypV hK hP hD hS hE hFc yo_12 rfl) rfl rfl hl.1 rfl (lv_room (Nat.le_of_ble_eq_true rfl)) d_Model_eval_686 ⟨Nat.le_of_ble_eq_true rfl, Nat.le_of_ble_eq_true rfl⟩) hS (fun q _ h => hFc q h) hFc (fun r9 u9 t9 H locs ht hvm e9 hB hz1 hk1 hS => ?_)
          have e9 : r_28 = r9 := e9
          subst e9
          obtain ⟨hP, hD⟩ := y_aft hB ht hFc
          clear hFc hk1 hz1 hvm hB ht
          refine lv_lstore (lv' := [(8, .long r_28), (7, .int x_9), (0, .ref h), (1, .int v1), (4, .long v4), (6, .int v6)]) hx hb d_Model_eval_689 hl (by decide) rfl (fun ls hl => ?_)
          refine lv_aload_n hx hb d_Model_eval_691 rfl (lv_at hl 2 rfl) ?_
          refine va_get (D := (dC, dI)) (ci := 12) (v := .int (i_24 102)) (C := R_Model) (T := F_Model) (N := 127) hx hb htt iw_Model hown hK hP 0 yo_12 rfl 102 (Nat.le_of_ble_eq_true rfl) (htt _ lk_Model_559) (fun _ h9 => h9) yg_102 d_Model_eval_692 ?_
          refine lv_if_eq (tgt := 702) hx hb d_Model_eval_695 (by decide) (fun c_29 => ?_) (fun c_29 => ?_)
          · replace hm := if_t c_29 hm
            refine lv_lload hx hb d_Model_eval_702 (lv_at hl 0 rfl) ?_
            refine lv_ldc2 (v := 3) hx hb hown (htt _ lk_Model_7) d_Model_eval_704 ?_
            refine W.lcmp hx hb d_Model_eval_707 ?_
            refine lv_if_ne (tgt := 717) hx hb d_Model_eval_708 (by decide) (fun c_30 => ?_) (fun c_30 => ?_)
            · replace hm := if_f c_30 hm
              refine lv_aload_n hx hb d_Model_eval_717 rfl (lv_at hl 2 rfl) ?_
              refine lv_dup hx hb d_Model_eval_718 rfl ?_
              refine va_get (D := (dC, dI)) (ci := 12) (v := .int (i_24 98)) (C := R_Model) (T := F_Model) (N := 127) hx hb htt iw_Model hown hK hP 0 yo_12 rfl 98 (Nat.le_of_ble_eq_true rfl) (htt _ lk_Model_535) (fun _ h9 => h9) yg_98 d_Model_eval_719 ?_
              refine lv_iconst (v := 1) hx hb d_Model_eval_722 (by decide) ?_
              refine lv_isub hx hb d_Model_eval_723 ?_
              refine lv_topi (fun x_31 ex_31 => ?_)
              replace hm := ob1_at ex_31 hm
              refine va_put (D := (dC, dI)) (ci := 12) (v := .int x_31) (ty := .int) (C := R_Model) (T := F_Model) (N := 127) hx hb htt iw_Model t_Model t_Model_ok n_Model hown hK hP hD hS 0 yo_12 rfl 98 (Nat.le_of_ble_eq_true rfl) (htt _ lk_Model_535) (fun _ h9 => h9) rfl (by decide +kernel) rfl rfl yl_98 d_Model_eval_724 (fun H locs hP hD hS => ?_)
              obtain ⟨i_32, ei_32⟩ : ∃ y9 : Nat → Int32, y9 = upd i_24 98 x_31 := ⟨_, rfl⟩
              replace hm := ob1_at ei_32 hm
              obtain ⟨hP, hD⟩ := yw_98 ei_32 hP hD
              refine lv_aload_n hx hb d_Model_eval_727 rfl (lv_at hl 2 rfl) ?_
              refine lv_dup hx hb d_Model_eval_728 rfl ?_
              refine va_get (D := (dC, dI)) (ci := 12) (v := .int (i_32 107)) (C := R_Model) (T := F_Model) (N := 127) hx hb htt iw_Model hown hK hP 0 yo_12 rfl 107 (Nat.le_of_ble_eq_true rfl) (htt _ lk_Model_562) (fun _ h9 => h9) yg_107 d_Model_eval_729 ?_
              refine lv_iconst (v := 1) hx hb d_Model_eval_732 (by decide) ?_
              refine lv_isub hx hb d_Model_eval_733 ?_
              refine lv_topi (fun x_33 ex_33 => ?_)
              replace hm := ob1_at ex_33 hm
              refine va_put (D := (dC, dI)) (ci := 12) (v := .int x_33) (ty := .int) (C := R_Model) (T := F_Model) (N := 127) hx hb htt iw_Model t_Model t_Model_ok n_Model hown hK hP hD hS 0 yo_12 rfl 107 (Nat.le_of_ble_eq_true rfl) (htt _ lk_Model_562) (fun _ h9 => h9) rfl (by decide +kernel) rfl rfl yl_107 d_Model_eval_734 (fun H locs hP hD hS => ?_)
              obtain ⟨i_34, ei_34⟩ : ∃ y9 : Nat → Int32, y9 = upd i_32 107 x_33 := ⟨_, rfl⟩
              replace hm := ob1_at ei_34 hm
              obtain ⟨hP, hD⟩ := yw_107 ei_34 hP hD
              refine lv_aload_n hx hb d_Model_eval_737 rfl (lv_at hl 2 rfl) ?_
              obtain ⟨i_36, j_37, a_38, b_39, r_40, h_35, hm⟩ := om_some hm
              have hFc := x_free hD hS hA
              refine va_calli (va_runV (As := []) (rest := []) ⟨hx, hb, hml, hown, hts⟩ (x_Model_begins l dC dI cI cJ cB adK adV adA h v H.size n h_35) (cwV 0 hts (tw_GV tw_cons cw_Model_begins lk_Model_620 in_Model_begins sel_Model_begins ini_Model) rfl rfl rfl ⟨rfl, hd_Model_begins⟩ (gR_fit (d + 1) (Nat.le_of_ble_eq_true rfl) (Nat.le_of_ble_eq_true rfl))) (ypV hK hP hD hS hE hFc yo_12 rfl) rfl rfl hl.1 rfl (lv_room (Nat.le_of_ble_eq_true rfl)) d_Model_eval_738 ⟨Nat.le_of_ble_eq_true rfl, Nat.le_of_ble_eq_true rfl⟩) hS (fun q _ h => hFc q h) hFc (fun r9 u9 t9 H locs ht hvm e9 hB hz1 hk1 hS => ?_)
              have e9 : r_40 = r9 := e9
              subst e9
              obtain ⟨hP, hD⟩ := y_aft hB ht hFc
              clear hFc hk1 hz1 hvm hB ht
              refine lv_if_eq (tgt := 764) hx hb d_Model_eval_741 (by decide) (fun c_41 => ?_) (fun c_41 => ?_)
              · replace hm := if_t c_41 hm
                refine lv_ldc2 (v := 3) hx hb hown (htt _ lk_Model_7) d_Model_eval_764 ?_
                exact lb_Model_eval_767 d G l dC dI cI cJ cB adK adV adA h v n HG hx hb hml hown hts hK hE hA hr hlocks (m_Model_eval_b587 n G f) ih _ _ _ _ _ _ hm _ _ _ hP hD hS (lv_sub hl [2, 3] rfl)
              · replace hm := if_f c_41 hm
                refine lv_aload_n hx hb d_Model_eval_744 rfl (lv_at hl 2 rfl) ?_
                refine lv_iload hx hb d_Model_eval_745 (lv_at hl 1 rfl) ?_
                refine lv_aload_n hx hb d_Model_eval_747 rfl (lv_at hl 2 rfl) ?_
                refine va_get (D := (dC, dI)) (ci := 12) (v := .ref ((v 111))) (C := R_Model) (T := F_Model) (N := 127) hx hb htt iw_Model hown hK hP 0 yo_12 rfl 111 (Nat.le_of_ble_eq_true rfl) (htt _ lk_Model_301) (fun _ h9 => h9) yg_111 d_Model_eval_748 ?_
                refine lv_aload_n hx hb d_Model_eval_751 rfl (lv_at hl 2 rfl) ?_
                refine va_get (D := (dC, dI)) (ci := 12) (v := .int (i_36 107)) (C := R_Model) (T := F_Model) (N := 127) hx hb htt iw_Model hown hK hP 0 yo_12 rfl 107 (Nat.le_of_ble_eq_true rfl) (htt _ lk_Model_562) (fun _ h9 => h9) yg_107 d_Model_eval_752 ?_
                obtain ⟨h_42, hm⟩ := ck_some hm
                refine va_lald hx hb hK hP 61 1 ya_111 rfl h_42 d_Model_eval_755 ?_
                refine lv_lload hx hb d_Model_eval_756 (lv_at hl 0 rfl) ?_
                obtain ⟨i_44, j_45, a_46, b_47, r_48, h_43, hm⟩ := om_some hm
                have hFc := x_free hD hS hA
                refine va_calll (va_runV (As := [.int x_9, .long (b_39 111 (i_36 107).toNatClampNeg), .long r_28]) (rest := []) ⟨hx, hb, hml, hown, hts⟩ (x_Model_binary l dC dI cI cJ cB adK adV adA h v H.size n h_43) (cwV 3 hts (tw_GV tw_cons cw_Model_binary lk_Model_633 in_Model_binary sel_Model_binary ini_Model) rfl rfl rfl ⟨rfl, hd_Model_binary⟩ (gR_fit (d + 1) (Nat.le_of_ble_eq_true rfl) (Nat.le_of_ble_eq_true rfl))) (ypV hK hP hD hS hE hFc yo_12 rfl) rfl rfl hl.1 rfl (lv_room (Nat.le_of_ble_eq_true rfl)) d_Model_eval_758 ⟨Nat.le_of_ble_eq_true rfl, Nat.le_of_ble_eq_true rfl⟩) hS (fun q _ h => hFc q h) hFc (fun r9 u9 t9 H locs ht hvm e9 hB hz1 hk1 hS => ?_)
                have e9 : r_48 = r9 := e9
                subst e9
                obtain ⟨hP, hD⟩ := y_aft hB ht hFc
                clear hFc hk1 hz1 hvm hB ht
                refine lv_goto (tgt := 767) hx hb d_Model_eval_761 (by decide) ?_
                exact lb_Model_eval_767 d G l dC dI cI cJ cB adK adV adA h v n HG hx hb hml hown hts hK hE hA hr hlocks (m_Model_eval_b587 n G f) ih _ _ _ _ _ _ hm _ _ _ hP hD hS (lv_sub hl [2, 3] rfl)
            · replace hm := if_t c_30 hm
              refine lv_aload_n hx hb d_Model_eval_711 rfl (lv_at hl 2 rfl) ?_
              refine lv_iconst (v := 4) hx hb d_Model_eval_712 (by decide) ?_
              obtain ⟨i_50, j_51, a_52, b_53, r_54, h_49, hm⟩ := om_some hm
              have hFc := x_free hD hS hA
              refine va_calll (va_runV (As := [.int 4]) (rest := []) ⟨hx, hb, hml, hown, hts⟩ (x_Model_fails l dC dI cI cJ cB adK adV adA h v H.size n h_49) (cwV 1 hts (tw_GV tw_cons cw_Model_fails lk_Model_596 in_Model_fails sel_Model_fails ini_Model) rfl rfl rfl ⟨rfl, hd_Model_fails⟩ (gR_fit (d + 1) (Nat.le_of_ble_eq_true rfl) (Nat.le_of_ble_eq_true rfl))) (ypV hK hP hD hS hE hFc yo_12 rfl) rfl rfl hl.1 rfl (lv_room (Nat.le_of_ble_eq_true rfl)) d_Model_eval_713 ⟨Nat.le_of_ble_eq_true rfl, Nat.le_of_ble_eq_true rfl⟩) hS (fun q _ h => hFc q h) hFc (fun r9 u9 t9 H locs ht hvm e9 hB hz1 hk1 hS => ?_)
              have e9 : r_54 = r9 := e9
              subst e9
              obtain ⟨hP, hD⟩ := y_aft hB ht hFc
              clear hFc hk1 hz1 hvm hB ht
              obtain ⟨e1i, e1j, e1a, e1b, e3⟩ := re4m hm
              obtain ⟨hP, hD⟩ := y_eq e1i e1j e1a e1b hP hD
              exact W.lret hx hb hr (fun t9 ht hW => ⟨⟨_, (), rfl, e3.symm, by rw [ht]; exact hP, hD⟩, hS.F ht⟩) hS.2.2 d_Model_eval_716
          · replace hm := if_f c_29 hm
            refine lv_ldc2 (v := 3) hx hb hown (htt _ lk_Model_7) d_Model_eval_698 ?_
            obtain ⟨e1i, e1j, e1a, e1b, e3⟩ := re4m hm
            obtain ⟨hP, hD⟩ := y_eq e1i e1j e1a e1b hP hD
            exact W.lret hx hb hr (fun t9 ht hW => ⟨⟨_, (), rfl, e3.symm, by rw [ht]; exact hP, hD⟩, hS.F ht⟩) hS.2.2 d_Model_eval_701
        · replace hm := if_t c_18 hm
          refine lv_ldc2 (v := 3) hx hb hown (htt _ lk_Model_7) d_Model_eval_658 ?_
          obtain ⟨e1i, e1j, e1a, e1b, e3⟩ := re4m hm
          obtain ⟨hP, hD⟩ := y_eq e1i e1j e1a e1b hP hD
          exact W.lret hx hb hr (fun t9 ht hW => ⟨⟨_, (), rfl, e3.symm, by rw [ht]; exact hP, hD⟩, hS.F ht⟩) hS.2.2 d_Model_eval_661
      · replace hm := if_t c_2 hm
        refine lv_aload_n hx hb d_Model_eval_601 rfl (lv_at hl 0 rfl) ?_
        refine lv_iconst (v := 4) hx hb d_Model_eval_602 (by decide) ?_
        obtain ⟨i_56, j_57, a_58, b_59, r_60, h_55, hm⟩ := om_some hm
        have hFc := x_free hD hS hA
        refine va_calll (va_runV (As := [.int 4]) (rest := []) ⟨hx, hb, hml, hown, hts⟩ (x_Model_fails l dC dI cI cJ cB adK adV adA h v H.size n h_55) (cwV 1 hts (tw_GV tw_cons cw_Model_fails lk_Model_596 in_Model_fails sel_Model_fails ini_Model) rfl rfl rfl ⟨rfl, hd_Model_fails⟩ (gR_fit (d + 1) (Nat.le_of_ble_eq_true rfl) (Nat.le_of_ble_eq_true rfl))) (ypV hK hP hD hS hE hFc yo_12 rfl) rfl rfl hl.1 rfl (lv_room (Nat.le_of_ble_eq_true rfl)) d_Model_eval_603 ⟨Nat.le_of_ble_eq_true rfl, Nat.le_of_ble_eq_true rfl⟩) hS (fun q _ h => hFc q h) hFc (fun r9 u9 t9 H locs ht hvm e9 hB hz1 hk1 hS => ?_)
        have e9 : r_60 = r9 := e9
        subst e9
        obtain ⟨hP, hD⟩ := y_aft hB ht hFc
        clear hFc hk1 hz1 hvm hB ht
        obtain ⟨e1i, e1j, e1a, e1b, e3⟩ := re4m hm
        obtain ⟨hP, hD⟩ := y_eq e1i e1j e1a e1b hP hD
        exact W.lret hx hb hr (fun t9 ht hW => ⟨⟨_, (), rfl, e3.symm, by rw [ht]; exact hP, hD⟩, hS.F ht⟩) hS.2.2 d_Model_eval_606
def m_Model_eval_b580 (n : Nat) (G : GB) (i : Nat → Int32) (j : Nat → Int64) (a : Nat → Nat → Int32) (b : Nat → Nat → Int64) (v1 : Int32) (v4 : Int64) : Option ((Nat → Int32) × (Nat → Int64) × (Nat → Nat → Int32) × (Nat → Nat → Int64) × Int64) := ob0 (m_Model_signAhead n i j a b v1) (fun r_2 => m_Model_eval_b587 n G n i j a b v1 v4 r_2)
set_option maxHeartbeats 4000000 in
set_option maxRecDepth 100000 in
theorem lb_Model_eval_580 (d : Nat) (G : GB) (l : Launch) (dC : Nat → ClassId) (dI : Nat → Nat → Nat) (cI cJ cB : ClassId) (adK adV adA : Nat → Nat) (h : Nat) (v : Nat → Nat) (n : Nat) (HG : GH l dC dI cI cJ cB adK adV adA h v n G d) {p : Program} {e : Env} {s : State} {m : MethodId} {args : Array Value} {below : List Frame} {meth : Method} {c : Code} {A : Nat → Prop} (hx : p.tables.exec = Jvm.exec) (hb : c.code = b_Model_eval) (hml : c.maxLocals = 18) (hown : s.vm.findClass R_Model = some m.cls) (hts : ∀ w ∈ w_Model_eval, w.before args s = true) (hK : va_K (dC, dI) classes [(cI, .int), (cJ, .long), (cB, .byte)] s) (hE : tw_E adK adV adA A s s.heap) (hA : ∀ q : Nat, s.heap.size ≤ q → A q) (hr : meth.sig.returnType = (some .long)) (hlocks : meth.locks = false) {i2 : Nat → Int32} {j2 : Nat → Int64} {a2 : Nat → Nat → Int32} {b2 : Nat → Nat → Int64} {r2 : Int64} (i : Nat → Int32) (j : Nat → Int64) (a : Nat → Nat → Int32) (b : Nat → Nat → Int64) (v1 : Int32) (v4 : Int64) (hm : m_Model_eval_b580 n G i j a b v1 v4 = some (i2, j2, a2, b2, r2)) : ∀ (H : Heap) (locs : List Loc) (ls : Array Slot), va_P (dC, dI) classes (MW cI cJ cB h v i j a b) H → va_D A (MW cI cJ cB h v i j a b) → va_S A s.heap H locs → lv_has ls 18 [(0, .ref h), (1, .int v1), (4, .long v4)] → W p l e (gR (d + 1)) s m args below meth c H locs 0 0 (MQ below (va_Ql (xR r2) (yB dC dI cI cJ cB h v i2 j2 a2 b2 A) A) args s 0 0 A) (F0 m 580 ls []) := by
  have htt : ∀ w ∈ tw_T, w.before _ s = true := fun w h => hts w (List.mem_cons_of_mem _ h)
  intro H locs ls hP hD hS hl
  rw [m_Model_eval_b580] at hm
  refine lv_aload_n hx hb d_Model_eval_580 rfl (lv_at hl 0 rfl) ?_
  refine lv_iload_n hx hb d_Model_eval_581 rfl (lv_at hl 1 rfl) ?_
  obtain ⟨r_2, h_1, hm⟩ := ob0_some hm
  have hFc := x_free0 hS hA
  refine va_calli (va_runV (As := [.int v1]) (rest := []) ⟨hx, hb, hml, hown, hts⟩ (x_Model_signAhead l dC dI cI cJ cB adK adV adA h v H.size n h_1) (cwV 1 hts (tw_GV tw_cons cw_Model_signAhead lk_Model_630 in_Model_signAhead sel_Model_signAhead ini_Model) rfl rfl rfl ⟨rfl, hd_Model_signAhead⟩ (gR_fit (d + 1) (Nat.le_of_ble_eq_true rfl) (Nat.le_of_ble_eq_true rfl))) (ypVr hK hP hS hE hFc yo_12 rfl) rfl rfl hl.1 rfl (lv_room (Nat.le_of_ble_eq_true rfl)) d_Model_eval_582 ⟨Nat.le_of_ble_eq_true rfl, Nat.le_of_ble_eq_true rfl⟩) hS (fun q _ h => hFc q h) hFc (fun r9 u9 t9 H locs ht hvm e9 hB hz1 hk1 hS => ?_)
  have e9 : r_2 = r9 := e9
  subst e9
  replace hP := x_keep hP hk1
  clear hFc hk1 hz1 hvm hB ht
  refine lv_istore (lv' := [(6, .int r_2), (0, .ref h), (1, .int v1), (4, .long v4)]) hx hb d_Model_eval_585 hl (by decide) rfl (fun ls hl => ?_)
  exact lb_Model_eval_587 d G l dC dI cI cJ cB adK adV adA h v n HG hx hb hml hown hts hK hE hA hr hlocks n _ _ _ _ _ _ _ hm _ _ _ hP hD hS (lv_sub hl [1, 2, 3, 0] rfl)
def m_Model_eval_b569 (n : Nat) (G : GB) (i : Nat → Int32) (j : Nat → Int64) (a : Nat → Nat → Int32) (b : Nat → Nat → Int64) (v1 : Int32) (v4 : Int64) : Option ((Nat → Int32) × (Nat → Int64) × (Nat → Nat → Int32) × (Nat → Nat → Int64) × Int64) := if ((i 102)) = ((0 : Int32)) then m_Model_eval_b580 n G i j a b v1 v4 else some (i, j, a, b, 3)
set_option maxHeartbeats 4000000 in
set_option maxRecDepth 100000 in
theorem lb_Model_eval_569 (d : Nat) (G : GB) (l : Launch) (dC : Nat → ClassId) (dI : Nat → Nat → Nat) (cI cJ cB : ClassId) (adK adV adA : Nat → Nat) (h : Nat) (v : Nat → Nat) (n : Nat) (HG : GH l dC dI cI cJ cB adK adV adA h v n G d) {p : Program} {e : Env} {s : State} {m : MethodId} {args : Array Value} {below : List Frame} {meth : Method} {c : Code} {A : Nat → Prop} (hx : p.tables.exec = Jvm.exec) (hb : c.code = b_Model_eval) (hml : c.maxLocals = 18) (hown : s.vm.findClass R_Model = some m.cls) (hts : ∀ w ∈ w_Model_eval, w.before args s = true) (hK : va_K (dC, dI) classes [(cI, .int), (cJ, .long), (cB, .byte)] s) (hE : tw_E adK adV adA A s s.heap) (hA : ∀ q : Nat, s.heap.size ≤ q → A q) (hr : meth.sig.returnType = (some .long)) (hlocks : meth.locks = false) {i2 : Nat → Int32} {j2 : Nat → Int64} {a2 : Nat → Nat → Int32} {b2 : Nat → Nat → Int64} {r2 : Int64} (i : Nat → Int32) (j : Nat → Int64) (a : Nat → Nat → Int32) (b : Nat → Nat → Int64) (v1 : Int32) (v4 : Int64) (hm : m_Model_eval_b569 n G i j a b v1 v4 = some (i2, j2, a2, b2, r2)) : ∀ (H : Heap) (locs : List Loc) (ls : Array Slot), va_P (dC, dI) classes (MW cI cJ cB h v i j a b) H → va_D A (MW cI cJ cB h v i j a b) → va_S A s.heap H locs → lv_has ls 18 [(0, .ref h), (1, .int v1), (4, .long v4)] → W p l e (gR (d + 1)) s m args below meth c H locs 0 0 (MQ below (va_Ql (xR r2) (yB dC dI cI cJ cB h v i2 j2 a2 b2 A) A) args s 0 0 A) (F0 m 569 ls []) := by
  have htt : ∀ w ∈ tw_T, w.before _ s = true := fun w h => hts w (List.mem_cons_of_mem _ h)
  intro H locs ls hP hD hS hl
  rw [m_Model_eval_b569] at hm
  refine lv_aload_n hx hb d_Model_eval_569 rfl (lv_at hl 0 rfl) ?_
  refine va_get (D := (dC, dI)) (ci := 12) (v := .int (i 102)) (C := R_Model) (T := F_Model) (N := 127) hx hb htt iw_Model hown hK hP 0 yo_12 rfl 102 (Nat.le_of_ble_eq_true rfl) (htt _ lk_Model_559) (fun _ h9 => h9) yg_102 d_Model_eval_570 ?_
  refine lv_if_eq (tgt := 580) hx hb d_Model_eval_573 (by decide) (fun c_1 => ?_) (fun c_1 => ?_)
  · replace hm := if_t c_1 hm
    exact lb_Model_eval_580 d G l dC dI cI cJ cB adK adV adA h v n HG hx hb hml hown hts hK hE hA hr hlocks _ _ _ _ _ _ hm _ _ _ hP hD hS (lv_sub hl [0, 1, 2] rfl)
  · replace hm := if_f c_1 hm
    refine lv_ldc2 (v := 3) hx hb hown (htt _ lk_Model_7) d_Model_eval_576 ?_
    obtain ⟨e1i, e1j, e1a, e1b, e3⟩ := re4m hm
    obtain ⟨hP, hD⟩ := y_eq e1i e1j e1a e1b hP hD
    exact W.lret hx hb hr (fun t9 ht hW => ⟨⟨_, (), rfl, e3.symm, by rw [ht]; exact hP, hD⟩, hS.F ht⟩) hS.2.2 d_Model_eval_579
def m_Model_eval_b554 (n : Nat) (G : GB) (i : Nat → Int32) (j : Nat → Int64) (a : Nat → Nat → Int32) (b : Nat → Nat → Int64) (v1 : Int32) (v14 : Int32) (s0 : Int64) : Option ((Nat → Int32) × (Nat → Int64) × (Nat → Nat → Int32) × (Nat → Nat → Int64) × Int64) := if ((i 102)) = ((0 : Int32)) then ob1 (upd i 107 v14 : Nat → Int32) (fun i_2 => m_Model_eval_b569 n G i_2 j a b v1 s0) else m_Model_eval_b569 n G i j a b v1 s0
set_option maxHeartbeats 4000000 in
set_option maxRecDepth 100000 in
theorem lb_Model_eval_554 (d : Nat) (G : GB) (l : Launch) (dC : Nat → ClassId) (dI : Nat → Nat → Nat) (cI cJ cB : ClassId) (adK adV adA : Nat → Nat) (h : Nat) (v : Nat → Nat) (n : Nat) (HG : GH l dC dI cI cJ cB adK adV adA h v n G d) {p : Program} {e : Env} {s : State} {m : MethodId} {args : Array Value} {below : List Frame} {meth : Method} {c : Code} {A : Nat → Prop} (hx : p.tables.exec = Jvm.exec) (hb : c.code = b_Model_eval) (hml : c.maxLocals = 18) (hown : s.vm.findClass R_Model = some m.cls) (hts : ∀ w ∈ w_Model_eval, w.before args s = true) (hK : va_K (dC, dI) classes [(cI, .int), (cJ, .long), (cB, .byte)] s) (hE : tw_E adK adV adA A s s.heap) (hA : ∀ q : Nat, s.heap.size ≤ q → A q) (hr : meth.sig.returnType = (some .long)) (hlocks : meth.locks = false) {i2 : Nat → Int32} {j2 : Nat → Int64} {a2 : Nat → Nat → Int32} {b2 : Nat → Nat → Int64} {r2 : Int64} (i : Nat → Int32) (j : Nat → Int64) (a : Nat → Nat → Int32) (b : Nat → Nat → Int64) (v1 : Int32) (v14 : Int32) (s0 : Int64) (hm : m_Model_eval_b554 n G i j a b v1 v14 s0 = some (i2, j2, a2, b2, r2)) : ∀ (H : Heap) (locs : List Loc) (ls : Array Slot), va_P (dC, dI) classes (MW cI cJ cB h v i j a b) H → va_D A (MW cI cJ cB h v i j a b) → va_S A s.heap H locs → lv_has ls 18 [(0, .ref h), (1, .int v1), (14, .int v14)] → W p l e (gR (d + 1)) s m args below meth c H locs 0 0 (MQ below (va_Ql (xR r2) (yB dC dI cI cJ cB h v i2 j2 a2 b2 A) A) args s 0 0 A) (F0 m 554 ls [.long s0]) := by
  have htt : ∀ w ∈ tw_T, w.before _ s = true := fun w h => hts w (List.mem_cons_of_mem _ h)
  intro H locs ls hP hD hS hl
  rw [m_Model_eval_b554] at hm
  refine lv_lstore (lv' := [(4, .long s0), (0, .ref h), (1, .int v1), (14, .int v14)]) hx hb d_Model_eval_554 hl (by decide) rfl (fun ls hl => ?_)
  refine lv_aload_n hx hb d_Model_eval_556 rfl (lv_at hl 1 rfl) ?_
  refine va_get (D := (dC, dI)) (ci := 12) (v := .int (i 102)) (C := R_Model) (T := F_Model) (N := 127) hx hb htt iw_Model hown hK hP 0 yo_12 rfl 102 (Nat.le_of_ble_eq_true rfl) (htt _ lk_Model_559) (fun _ h9 => h9) yg_102 d_Model_eval_557 ?_
  refine lv_if_ne (tgt := 569) hx hb d_Model_eval_560 (by decide) (fun c_1 => ?_) (fun c_1 => ?_)
  · replace hm := if_f c_1 hm
    exact lb_Model_eval_569 d G l dC dI cI cJ cB adK adV adA h v n HG hx hb hml hown hts hK hE hA hr hlocks _ _ _ _ _ _ hm _ _ _ hP hD hS (lv_sub hl [1, 2, 0] rfl)
  · replace hm := if_t c_1 hm
    refine lv_aload_n hx hb d_Model_eval_563 rfl (lv_at hl 1 rfl) ?_
    refine lv_iload hx hb d_Model_eval_564 (lv_at hl 3 rfl) ?_
    refine va_put (D := (dC, dI)) (ci := 12) (v := .int v14) (ty := .int) (C := R_Model) (T := F_Model) (N := 127) hx hb htt iw_Model t_Model t_Model_ok n_Model hown hK hP hD hS 0 yo_12 rfl 107 (Nat.le_of_ble_eq_true rfl) (htt _ lk_Model_562) (fun _ h9 => h9) rfl (by decide +kernel) rfl rfl yl_107 d_Model_eval_566 (fun H locs hP hD hS => ?_)
    obtain ⟨i_2, ei_2⟩ : ∃ y9 : Nat → Int32, y9 = upd i 107 v14 := ⟨_, rfl⟩
    replace hm := ob1_at ei_2 hm
    obtain ⟨hP, hD⟩ := yw_107 ei_2 hP hD
    exact lb_Model_eval_569 d G l dC dI cI cJ cB adK adV adA h v n HG hx hb hml hown hts hK hE hA hr hlocks _ _ _ _ _ _ hm _ _ _ hP hD hS (lv_sub hl [1, 2, 0] rfl)
def m_Model_eval_b508 (n : Nat) (G : GB) (i : Nat → Int32) (j : Nat → Int64) (a : Nat → Nat → Int32) (b : Nat → Nat → Int64) (v1 : Int32) (v9 : Int32) (v10 : Int32) (v11 : Int32) (v12 : Int64) (v14 : Int32) (s0 : Int32) (s1 : Int32) : Option ((Nat → Int32) × (Nat → Int64) × (Nat → Nat → Int32) × (Nat → Nat → Int64) × Int64) := ob1 (s1 - s0 : Int32) (fun x_1 => ob1 (upd i 98 x_1 : Nat → Int32) (fun i_2 => om (m_Model_begins n i_2 j a b) (fun i_4 j_5 a_6 b_7 r_8 => if r_8 = ((0 : Int32)) then m_Model_eval_b554 n G i_4 j_5 a_6 b_7 v1 v14 (3 : Int64) else if v9 = ((-1 : Int32)) then om (G.2.1 i_4 j_5 a_6 b_7 v10 v14 v11 v12) (fun i_18 j_19 a_20 b_21 r_22 => m_Model_eval_b554 n G i_18 j_19 a_20 b_21 v1 v14 r_22) else om (G.2.2.2.2.1 i_4 j_5 a_6 b_7 v9 v14) (fun i_12 j_13 a_14 b_15 r_16 => m_Model_eval_b554 n G i_12 j_13 a_14 b_15 v1 v14 r_16))))
set_option maxHeartbeats 4000000 in
set_option maxRecDepth 100000 in
theorem lb_Model_eval_508 (d : Nat) (G : GB) (l : Launch) (dC : Nat → ClassId) (dI : Nat → Nat → Nat) (cI cJ cB : ClassId) (adK adV adA : Nat → Nat) (h : Nat) (v : Nat → Nat) (n : Nat) (HG : GH l dC dI cI cJ cB adK adV adA h v n G d) {p : Program} {e : Env} {s : State} {m : MethodId} {args : Array Value} {below : List Frame} {meth : Method} {c : Code} {A : Nat → Prop} (hx : p.tables.exec = Jvm.exec) (hb : c.code = b_Model_eval) (hml : c.maxLocals = 18) (hown : s.vm.findClass R_Model = some m.cls) (hts : ∀ w ∈ w_Model_eval, w.before args s = true) (hK : va_K (dC, dI) classes [(cI, .int), (cJ, .long), (cB, .byte)] s) (hE : tw_E adK adV adA A s s.heap) (hA : ∀ q : Nat, s.heap.size ≤ q → A q) (hr : meth.sig.returnType = (some .long)) (hlocks : meth.locks = false) {i2 : Nat → Int32} {j2 : Nat → Int64} {a2 : Nat → Nat → Int32} {b2 : Nat → Nat → Int64} {r2 : Int64} (i : Nat → Int32) (j : Nat → Int64) (a : Nat → Nat → Int32) (b : Nat → Nat → Int64) (v1 : Int32) (v9 : Int32) (v10 : Int32) (v11 : Int32) (v12 : Int64) (v14 : Int32) (s0 : Int32) (s1 : Int32) (hm : m_Model_eval_b508 n G i j a b v1 v9 v10 v11 v12 v14 s0 s1 = some (i2, j2, a2, b2, r2)) : ∀ (H : Heap) (locs : List Loc) (ls : Array Slot), va_P (dC, dI) classes (MW cI cJ cB h v i j a b) H → va_D A (MW cI cJ cB h v i j a b) → va_S A s.heap H locs → lv_has ls 18 [(0, .ref h), (1, .int v1), (9, .int v9), (10, .int v10), (11, .int v11), (12, .long v12), (14, .int v14)] → W p l e (gR (d + 1)) s m args below meth c H locs 0 0 (MQ below (va_Ql (xR r2) (yB dC dI cI cJ cB h v i2 j2 a2 b2 A) A) args s 0 0 A) (F0 m 508 ls [.int s0, .int s1, .ref h]) := by
  have htt : ∀ w ∈ tw_T, w.before _ s = true := fun w h => hts w (List.mem_cons_of_mem _ h)
  intro H locs ls hP hD hS hl
  rw [m_Model_eval_b508] at hm
  refine lv_isub hx hb d_Model_eval_508 ?_
  refine lv_topi (fun x_1 ex_1 => ?_)
  replace hm := ob1_at ex_1 hm
  refine va_put (D := (dC, dI)) (ci := 12) (v := .int x_1) (ty := .int) (C := R_Model) (T := F_Model) (N := 127) hx hb htt iw_Model t_Model t_Model_ok n_Model hown hK hP hD hS 0 yo_12 rfl 98 (Nat.le_of_ble_eq_true rfl) (htt _ lk_Model_535) (fun _ h9 => h9) rfl (by decide +kernel) rfl rfl yl_98 d_Model_eval_509 (fun H locs hP hD hS => ?_)
  obtain ⟨i_2, ei_2⟩ : ∃ y9 : Nat → Int32, y9 = upd i 98 x_1 := ⟨_, rfl⟩
  replace hm := ob1_at ei_2 hm
  obtain ⟨hP, hD⟩ := yw_98 ei_2 hP hD
  refine lv_aload_n hx hb d_Model_eval_512 rfl (lv_at hl 0 rfl) ?_
  obtain ⟨i_4, j_5, a_6, b_7, r_8, h_3, hm⟩ := om_some hm
  have hFc := x_free hD hS hA
  refine va_calli (va_runV (As := []) (rest := []) ⟨hx, hb, hml, hown, hts⟩ (x_Model_begins l dC dI cI cJ cB adK adV adA h v H.size n h_3) (cwV 0 hts (tw_GV tw_cons cw_Model_begins lk_Model_620 in_Model_begins sel_Model_begins ini_Model) rfl rfl rfl ⟨rfl, hd_Model_begins⟩ (gR_fit (d + 1) (Nat.le_of_ble_eq_true rfl) (Nat.le_of_ble_eq_true rfl))) (ypV hK hP hD hS hE hFc yo_12 rfl) rfl rfl hl.1 rfl (lv_room (Nat.le_of_ble_eq_true rfl)) d_Model_eval_513 ⟨Nat.le_of_ble_eq_true rfl, Nat.le_of_ble_eq_true rfl⟩) hS (fun q _ h => hFc q h) hFc (fun r9 u9 t9 H locs ht hvm e9 hB hz1 hk1 hS => ?_)
  have e9 : r_8 = r9 := e9
  subst e9
  obtain ⟨hP, hD⟩ := y_aft hB ht hFc
  clear hFc hk1 hz1 hvm hB ht
  refine lv_if_eq (tgt := 551) hx hb d_Model_eval_516 (by decide) (fun c_9 => ?_) (fun c_9 => ?_)
  · replace hm := if_t c_9 hm
    refine lv_ldc2 (v := 3) hx hb hown (htt _ lk_Model_7) d_Model_eval_551 ?_
    exact lb_Model_eval_554 d G l dC dI cI cJ cB adK adV adA h v n HG hx hb hml hown hts hK hE hA hr hlocks _ _ _ _ _ _ _ hm _ _ _ hP hD hS (lv_sub hl [0, 1, 6] rfl)
  · replace hm := if_f c_9 hm
    refine lv_iload hx hb d_Model_eval_519 (lv_at hl 2 rfl) ?_
    refine lv_iconst (v := -1) hx hb d_Model_eval_521 (by decide) ?_
    refine lv_icmp_ne (tgt := 540) hx hb d_Model_eval_522 (by decide) (fun c_10 => ?_) (fun c_10 => ?_)
    · replace hm := if_f c_10 hm
      refine lv_aload_n hx hb d_Model_eval_540 rfl (lv_at hl 0 rfl) ?_
      refine lv_iload hx hb d_Model_eval_541 (lv_at hl 2 rfl) ?_
      refine lv_iload hx hb d_Model_eval_543 (lv_at hl 6 rfl) ?_
      obtain ⟨i_12, j_13, a_14, b_15, r_16, h_11, hm⟩ := om_some hm
      have hFc := x_free hD hS hA
      refine va_calll (va_runV (As := [.int v9, .int v14]) (rest := []) ⟨hx, hb, hml, hown, hts⟩ (HG.2.2.2.2.1 H.size _ _ _ _ _ _ _ _ _ _ _ h_11) (cwV 2 hts (tw_GV tw_cons cw_Model_applied lk_Model_627 in_Model_applied sel_Model_applied ini_Model) rfl rfl rfl ⟨rfl, hd_Model_applied⟩ (gR_up (by decide))) (ypV hK hP hD hS hE hFc yo_12 rfl) rfl rfl hl.1 rfl (lv_room (Nat.le_of_ble_eq_true rfl)) d_Model_eval_545 ⟨Nat.le_of_ble_eq_true rfl, Nat.le_of_ble_eq_true rfl⟩) hS (fun q _ h => hFc q h) hFc (fun r9 u9 t9 H locs ht hvm e9 hB hz1 hk1 hS => ?_)
      have e9 : r_16 = r9 := e9
      subst e9
      obtain ⟨hP, hD⟩ := y_aft hB ht hFc
      clear hFc hk1 hz1 hvm hB ht
      refine lv_goto (tgt := 554) hx hb d_Model_eval_548 (by decide) ?_
      exact lb_Model_eval_554 d G l dC dI cI cJ cB adK adV adA h v n HG hx hb hml hown hts hK hE hA hr hlocks _ _ _ _ _ _ _ hm _ _ _ hP hD hS (lv_sub hl [0, 1, 6] rfl)
    · replace hm := if_t c_10 hm
      refine lv_aload_n hx hb d_Model_eval_525 rfl (lv_at hl 0 rfl) ?_
      refine lv_iload hx hb d_Model_eval_526 (lv_at hl 3 rfl) ?_
      refine lv_iload hx hb d_Model_eval_528 (lv_at hl 6 rfl) ?_
      refine lv_iload hx hb d_Model_eval_530 (lv_at hl 4 rfl) ?_
      refine lv_lload hx hb d_Model_eval_532 (lv_at hl 5 rfl) ?_
      obtain ⟨i_18, j_19, a_20, b_21, r_22, h_17, hm⟩ := om_some hm
      have hFc := x_free hD hS hA
      refine va_calll (va_runV (As := [.int v10, .int v14, .int v11, .long v12]) (rest := []) ⟨hx, hb, hml, hown, hts⟩ (HG.2.1 H.size _ _ _ _ _ _ _ _ _ _ _ _ _ h_17) (cwV 4 hts (tw_GV tw_cons cw_Model_called lk_Model_623 in_Model_called sel_Model_called ini_Model) rfl rfl rfl ⟨rfl, hd_Model_called⟩ (gR_up (by decide))) (ypV hK hP hD hS hE hFc yo_12 rfl) rfl rfl hl.1 rfl (lv_room (Nat.le_of_ble_eq_true rfl)) d_Model_eval_534 ⟨Nat.le_of_ble_eq_true rfl, Nat.le_of_ble_eq_true rfl⟩) hS (fun q _ h => hFc q h) hFc (fun r9 u9 t9 H locs ht hvm e9 hB hz1 hk1 hS => ?_)
      have e9 : r_22 = r9 := e9
      subst e9
      obtain ⟨hP, hD⟩ := y_aft hB ht hFc
      clear hFc hk1 hz1 hvm hB ht
      refine lv_goto (tgt := 554) hx hb d_Model_eval_537 (by decide) ?_
      exact lb_Model_eval_554 d G l dC dI cI cJ cB adK adV adA h v n HG hx hb hml hown hts hK hE hA hr hlocks _ _ _ _ _ _ _ hm _ _ _ hP hD hS (lv_sub hl [0, 1, 6] rfl)
def m_Model_eval_b426 (n : Nat) (G : GB) : Nat → (Nat → Int32) → (Nat → Int64) → (Nat → Nat → Int32) → (Nat → Nat → Int64) → Int32 → Int32 → Int32 → Int32 → Int64 → Int32 → Int32 → Option ((Nat → Int32) × (Nat → Int64) × (Nat → Nat → Int32) × (Nat → Nat → Int64) × Int64)
  | 0, _, _, _, _, _, _, _, _, _, _, _ => none
  | f + 1, i, j, a, b, v1, v9, v10, v11, v12, v14, v15 => if v11 ≤ v15 then if v11 ≤ ((0 : Int32)) then m_Model_eval_b508 n G i j a b v1 v9 v10 v11 v12 v14 (0 : Int32) (i 98) else m_Model_eval_b508 n G i j a b v1 v9 v10 v11 v12 v14 (1 : Int32) (i 98) else om (G.1 i j a b (0 : Int32)) (fun i_4 j_5 a_6 b_7 r_8 => if ((i_4 102)) = ((0 : Int32)) then if ((lg_cmp r_8 3)) = ((0 : Int32)) then om (m_Model_fails n i_4 j_5 a_6 b_7 (4 : Int32)) (fun i_17 j_18 a_19 b_20 r_21 => some (i_17, j_18, a_19, b_20, r_21)) else ck ((i_4 107)) 36000 (ob1 (svl b_7 111 (i_4 107).toNatClampNeg r_8 : Nat → Nat → Int64) (fun b_12 => ob1 ((i_4 107) + 1 : Int32) (fun x_13 => ob1 (upd i_4 107 x_13 : Nat → Int32) (fun i_14 => ob1 (v15 + 1 : Int32) (fun x_15 => m_Model_eval_b426 n G f i_14 j_5 a_6 b_12 v1 v9 v10 v11 v12 v14 x_15))))) else some (i_4, j_5, a_6, b_7, 3))
set_option maxHeartbeats 4000000 in
set_option maxRecDepth 100000 in
theorem lb_Model_eval_426 (d : Nat) (G : GB) (l : Launch) (dC : Nat → ClassId) (dI : Nat → Nat → Nat) (cI cJ cB : ClassId) (adK adV adA : Nat → Nat) (h : Nat) (v : Nat → Nat) (n : Nat) (HG : GH l dC dI cI cJ cB adK adV adA h v n G d) {p : Program} {e : Env} {s : State} {m : MethodId} {args : Array Value} {below : List Frame} {meth : Method} {c : Code} {A : Nat → Prop} (hx : p.tables.exec = Jvm.exec) (hb : c.code = b_Model_eval) (hml : c.maxLocals = 18) (hown : s.vm.findClass R_Model = some m.cls) (hts : ∀ w ∈ w_Model_eval, w.before args s = true) (hK : va_K (dC, dI) classes [(cI, .int), (cJ, .long), (cB, .byte)] s) (hE : tw_E adK adV adA A s s.heap) (hA : ∀ q : Nat, s.heap.size ≤ q → A q) (hr : meth.sig.returnType = (some .long)) (hlocks : meth.locks = false) {i2 : Nat → Int32} {j2 : Nat → Int64} {a2 : Nat → Nat → Int32} {b2 : Nat → Nat → Int64} {r2 : Int64} : ∀ (f : Nat) (i : Nat → Int32) (j : Nat → Int64) (a : Nat → Nat → Int32) (b : Nat → Nat → Int64) (v1 : Int32) (v9 : Int32) (v10 : Int32) (v11 : Int32) (v12 : Int64) (v14 : Int32) (v15 : Int32), m_Model_eval_b426 n G f i j a b v1 v9 v10 v11 v12 v14 v15 = some (i2, j2, a2, b2, r2) → ∀ (H : Heap) (locs : List Loc) (ls : Array Slot), va_P (dC, dI) classes (MW cI cJ cB h v i j a b) H → va_D A (MW cI cJ cB h v i j a b) → va_S A s.heap H locs → lv_has ls 18 [(0, .ref h), (1, .int v1), (9, .int v9), (10, .int v10), (11, .int v11), (12, .long v12), (14, .int v14), (15, .int v15)] → W p l e (gR (d + 1)) s m args below meth c H locs 0 0 (MQ below (va_Ql (xR r2) (yB dC dI cI cJ cB h v i2 j2 a2 b2 A) A) args s 0 0 A) (F0 m 426 ls []) := by
  have htt : ∀ w ∈ tw_T, w.before _ s = true := fun w h => hts w (List.mem_cons_of_mem _ h)
  intro f
  induction f with
  | zero =>
    intro i j a b v1 v9 v10 v11 v12 v14 v15 hm
    rw [m_Model_eval_b426] at hm
    cases hm
  | succ f ih =>
    intro i j a b v1 v9 v10 v11 v12 v14 v15 hm H locs ls hP hD hS hl
    rw [m_Model_eval_b426] at hm
    refine lv_iload hx hb d_Model_eval_426 (lv_at hl 7 rfl) ?_
    refine lv_iload hx hb d_Model_eval_428 (lv_at hl 4 rfl) ?_
    refine lv_icmp_ge (tgt := 493) hx hb d_Model_eval_430 (by decide) (fun c_1 => ?_) (fun c_1 => ?_)
    · replace hm := if_t c_1 hm
      refine lv_aload_n hx hb d_Model_eval_493 rfl (lv_at hl 0 rfl) ?_
      refine lv_dup hx hb d_Model_eval_494 rfl ?_
      refine va_get (D := (dC, dI)) (ci := 12) (v := .int (i 98)) (C := R_Model) (T := F_Model) (N := 127) hx hb htt iw_Model hown hK hP 0 yo_12 rfl 98 (Nat.le_of_ble_eq_true rfl) (htt _ lk_Model_535) (fun _ h9 => h9) yg_98 d_Model_eval_495 ?_
      refine lv_iload hx hb d_Model_eval_498 (lv_at hl 4 rfl) ?_
      refine lv_if_le (tgt := 507) hx hb d_Model_eval_500 (by decide) (fun c_2 => ?_) (fun c_2 => ?_)
      · replace hm := if_t c_2 hm
        refine lv_iconst (v := 0) hx hb d_Model_eval_507 (by decide) ?_
        exact lb_Model_eval_508 d G l dC dI cI cJ cB adK adV adA h v n HG hx hb hml hown hts hK hE hA hr hlocks _ _ _ _ _ _ _ _ _ _ _ _ hm _ _ _ hP hD hS (lv_sub hl [0, 1, 2, 3, 4, 5, 6] rfl)
      · replace hm := if_f c_2 hm
        refine lv_iconst (v := 1) hx hb d_Model_eval_503 (by decide) ?_
        refine lv_goto (tgt := 508) hx hb d_Model_eval_504 (by decide) ?_
        exact lb_Model_eval_508 d G l dC dI cI cJ cB adK adV adA h v n HG hx hb hml hown hts hK hE hA hr hlocks _ _ _ _ _ _ _ _ _ _ _ _ hm _ _ _ hP hD hS (lv_sub hl [0, 1, 2, 3, 4, 5, 6] rfl)
    · replace hm := if_f c_1 hm
      refine lv_aload_n hx hb d_Model_eval_433 rfl (lv_at hl 0 rfl) ?_
      refine lv_iconst (v := 0) hx hb d_Model_eval_434 (by decide) ?_
      obtain ⟨i_4, j_5, a_6, b_7, r_8, h_3, hm⟩ := om_some hm
      have hFc := x_free hD hS hA
      refine va_calll (va_runV (As := [.int 0]) (rest := []) ⟨hx, hb, hml, hown, hts⟩ (HG.1 H.size _ _ _ _ _ _ _ _ _ _ h_3) (cwV 1 hts (tw_GV tw_cons cw_Model_eval lk_Model_593 in_Model_eval sel_Model_eval ini_Model) rfl rfl rfl ⟨rfl, hd_Model_eval⟩ (gR_up (by decide))) (ypV hK hP hD hS hE hFc yo_12 rfl) rfl rfl hl.1 rfl (lv_room (Nat.le_of_ble_eq_true rfl)) d_Model_eval_435 ⟨Nat.le_of_ble_eq_true rfl, Nat.le_of_ble_eq_true rfl⟩) hS (fun q _ h => hFc q h) hFc (fun r9 u9 t9 H locs ht hvm e9 hB hz1 hk1 hS => ?_)
      have e9 : r_8 = r9 := e9
      subst e9
      obtain ⟨hP, hD⟩ := y_aft hB ht hFc
      clear hFc hk1 hz1 hvm hB ht
      refine lv_lstore (lv' := [(16, .long r_8), (0, .ref h), (1, .int v1), (9, .int v9), (10, .int v10), (11, .int v11), (12, .long v12), (14, .int v14), (15, .int v15)]) hx hb d_Model_eval_438 hl (by decide) rfl (fun ls hl => ?_)
      refine lv_aload_n hx hb d_Model_eval_440 rfl (lv_at hl 1 rfl) ?_
      refine va_get (D := (dC, dI)) (ci := 12) (v := .int (i_4 102)) (C := R_Model) (T := F_Model) (N := 127) hx hb htt iw_Model hown hK hP 0 yo_12 rfl 102 (Nat.le_of_ble_eq_true rfl) (htt _ lk_Model_559) (fun _ h9 => h9) yg_102 d_Model_eval_441 ?_
      refine lv_if_eq (tgt := 451) hx hb d_Model_eval_444 (by decide) (fun c_9 => ?_) (fun c_9 => ?_)
      · replace hm := if_t c_9 hm
        refine lv_lload hx hb d_Model_eval_451 (lv_at hl 0 rfl) ?_
        refine lv_ldc2 (v := 3) hx hb hown (htt _ lk_Model_7) d_Model_eval_453 ?_
        refine W.lcmp hx hb d_Model_eval_456 ?_
        refine lv_if_ne (tgt := 466) hx hb d_Model_eval_457 (by decide) (fun c_10 => ?_) (fun c_10 => ?_)
        · replace hm := if_f c_10 hm
          refine lv_aload_n hx hb d_Model_eval_466 rfl (lv_at hl 1 rfl) ?_
          refine va_get (D := (dC, dI)) (ci := 12) (v := .ref ((v 111))) (C := R_Model) (T := F_Model) (N := 127) hx hb htt iw_Model hown hK hP 0 yo_12 rfl 111 (Nat.le_of_ble_eq_true rfl) (htt _ lk_Model_301) (fun _ h9 => h9) yg_111 d_Model_eval_467 ?_
          refine lv_aload_n hx hb d_Model_eval_470 rfl (lv_at hl 1 rfl) ?_
          refine va_get (D := (dC, dI)) (ci := 12) (v := .int (i_4 107)) (C := R_Model) (T := F_Model) (N := 127) hx hb htt iw_Model hown hK hP 0 yo_12 rfl 107 (Nat.le_of_ble_eq_true rfl) (htt _ lk_Model_562) (fun _ h9 => h9) yg_107 d_Model_eval_471 ?_
          refine lv_lload hx hb d_Model_eval_474 (lv_at hl 0 rfl) ?_
          obtain ⟨h_11, hm⟩ := ck_some hm
          refine va_last hx hb hK hP hD hS 61 1 ya_111 rfl h_11 d_Model_eval_476 (fun H locs hP hD hS => ?_)
          obtain ⟨b_12, eb_12⟩ : ∃ y9 : Nat → Nat → Int64, y9 = svl b_7 111 (i_4 107).toNatClampNeg r_8 := ⟨_, rfl⟩
          replace hm := ob1_at eb_12 hm
          obtain ⟨hP, hD⟩ := yv_111 eb_12 hP hD
          refine lv_aload_n hx hb d_Model_eval_477 rfl (lv_at hl 1 rfl) ?_
          refine lv_dup hx hb d_Model_eval_478 rfl ?_
          refine va_get (D := (dC, dI)) (ci := 12) (v := .int (i_4 107)) (C := R_Model) (T := F_Model) (N := 127) hx hb htt iw_Model hown hK hP 0 yo_12 rfl 107 (Nat.le_of_ble_eq_true rfl) (htt _ lk_Model_562) (fun _ h9 => h9) yg_107 d_Model_eval_479 ?_
          refine lv_iconst (v := 1) hx hb d_Model_eval_482 (by decide) ?_
          refine lv_iadd hx hb d_Model_eval_483 ?_
          refine lv_topi (fun x_13 ex_13 => ?_)
          replace hm := ob1_at ex_13 hm
          refine va_put (D := (dC, dI)) (ci := 12) (v := .int x_13) (ty := .int) (C := R_Model) (T := F_Model) (N := 127) hx hb htt iw_Model t_Model t_Model_ok n_Model hown hK hP hD hS 0 yo_12 rfl 107 (Nat.le_of_ble_eq_true rfl) (htt _ lk_Model_562) (fun _ h9 => h9) rfl (by decide +kernel) rfl rfl yl_107 d_Model_eval_484 (fun H locs hP hD hS => ?_)
          obtain ⟨i_14, ei_14⟩ : ∃ y9 : Nat → Int32, y9 = upd i_4 107 x_13 := ⟨_, rfl⟩
          replace hm := ob1_at ei_14 hm
          obtain ⟨hP, hD⟩ := yw_107 ei_14 hP hD
          obtain ⟨x_15, ex_15⟩ : ∃ y9 : Int32, y9 = v15 + 1 := ⟨_, rfl⟩
          replace hm := ob1_at ex_15 hm
          refine lv_iinc (v := x_15) (lv' := [(15, .int x_15), (16, .long r_8), (0, .ref h), (1, .int v1), (9, .int v9), (10, .int v10), (11, .int v11), (12, .long v12), (14, .int v14)]) hx hb d_Model_eval_487 hl (k := 8) rfl (by rw [ex_15]; rfl) (by decide) rfl (fun ls hl => ?_)
          refine lv_goto (tgt := 426) hx hb d_Model_eval_490 (by decide) ?_
          exact ih _ _ _ _ _ _ _ _ _ _ _ hm _ _ _ hP hD hS (lv_sub hl [2, 3, 4, 5, 6, 7, 8, 0] rfl)
        · replace hm := if_t c_10 hm
          refine lv_aload_n hx hb d_Model_eval_460 rfl (lv_at hl 1 rfl) ?_
          refine lv_iconst (v := 4) hx hb d_Model_eval_461 (by decide) ?_
          obtain ⟨i_17, j_18, a_19, b_20, r_21, h_16, hm⟩ := om_some hm
          have hFc := x_free hD hS hA
          refine va_calll (va_runV (As := [.int 4]) (rest := []) ⟨hx, hb, hml, hown, hts⟩ (x_Model_fails l dC dI cI cJ cB adK adV adA h v H.size n h_16) (cwV 1 hts (tw_GV tw_cons cw_Model_fails lk_Model_596 in_Model_fails sel_Model_fails ini_Model) rfl rfl rfl ⟨rfl, hd_Model_fails⟩ (gR_fit (d + 1) (Nat.le_of_ble_eq_true rfl) (Nat.le_of_ble_eq_true rfl))) (ypV hK hP hD hS hE hFc yo_12 rfl) rfl rfl hl.1 rfl (lv_room (Nat.le_of_ble_eq_true rfl)) d_Model_eval_462 ⟨Nat.le_of_ble_eq_true rfl, Nat.le_of_ble_eq_true rfl⟩) hS (fun q _ h => hFc q h) hFc (fun r9 u9 t9 H locs ht hvm e9 hB hz1 hk1 hS => ?_)
          have e9 : r_21 = r9 := e9
          subst e9
          obtain ⟨hP, hD⟩ := y_aft hB ht hFc
          clear hFc hk1 hz1 hvm hB ht
          obtain ⟨e1i, e1j, e1a, e1b, e3⟩ := re4m hm
          obtain ⟨hP, hD⟩ := y_eq e1i e1j e1a e1b hP hD
          exact W.lret hx hb hr (fun t9 ht hW => ⟨⟨_, (), rfl, e3.symm, by rw [ht]; exact hP, hD⟩, hS.F ht⟩) hS.2.2 d_Model_eval_465
      · replace hm := if_f c_9 hm
        refine lv_ldc2 (v := 3) hx hb hown (htt _ lk_Model_7) d_Model_eval_447 ?_
        obtain ⟨e1i, e1j, e1a, e1b, e3⟩ := re4m hm
        obtain ⟨hP, hD⟩ := y_eq e1i e1j e1a e1b hP hD
        exact W.lret hx hb hr (fun t9 ht hW => ⟨⟨_, (), rfl, e3.symm, by rw [ht]; exact hP, hD⟩, hS.F ht⟩) hS.2.2 d_Model_eval_450
def m_Model_eval_b423 (n : Nat) (G : GB) (i : Nat → Int32) (j : Nat → Int64) (a : Nat → Nat → Int32) (b : Nat → Nat → Int64) (v1 : Int32) (v9 : Int32) (v10 : Int32) (v11 : Int32) (v12 : Int64) (v14 : Int32) : Option ((Nat → Int32) × (Nat → Int64) × (Nat → Nat → Int32) × (Nat → Nat → Int64) × Int64) := m_Model_eval_b426 n G n i j a b v1 v9 v10 v11 v12 v14 (0 : Int32)
set_option maxHeartbeats 4000000 in
set_option maxRecDepth 100000 in
theorem lb_Model_eval_423 (d : Nat) (G : GB) (l : Launch) (dC : Nat → ClassId) (dI : Nat → Nat → Nat) (cI cJ cB : ClassId) (adK adV adA : Nat → Nat) (h : Nat) (v : Nat → Nat) (n : Nat) (HG : GH l dC dI cI cJ cB adK adV adA h v n G d) {p : Program} {e : Env} {s : State} {m : MethodId} {args : Array Value} {below : List Frame} {meth : Method} {c : Code} {A : Nat → Prop} (hx : p.tables.exec = Jvm.exec) (hb : c.code = b_Model_eval) (hml : c.maxLocals = 18) (hown : s.vm.findClass R_Model = some m.cls) (hts : ∀ w ∈ w_Model_eval, w.before args s = true) (hK : va_K (dC, dI) classes [(cI, .int), (cJ, .long), (cB, .byte)] s) (hE : tw_E adK adV adA A s s.heap) (hA : ∀ q : Nat, s.heap.size ≤ q → A q) (hr : meth.sig.returnType = (some .long)) (hlocks : meth.locks = false) {i2 : Nat → Int32} {j2 : Nat → Int64} {a2 : Nat → Nat → Int32} {b2 : Nat → Nat → Int64} {r2 : Int64} (i : Nat → Int32) (j : Nat → Int64) (a : Nat → Nat → Int32) (b : Nat → Nat → Int64) (v1 : Int32) (v9 : Int32) (v10 : Int32) (v11 : Int32) (v12 : Int64) (v14 : Int32) (hm : m_Model_eval_b423 n G i j a b v1 v9 v10 v11 v12 v14 = some (i2, j2, a2, b2, r2)) : ∀ (H : Heap) (locs : List Loc) (ls : Array Slot), va_P (dC, dI) classes (MW cI cJ cB h v i j a b) H → va_D A (MW cI cJ cB h v i j a b) → va_S A s.heap H locs → lv_has ls 18 [(0, .ref h), (1, .int v1), (9, .int v9), (10, .int v10), (11, .int v11), (12, .long v12), (14, .int v14)] → W p l e (gR (d + 1)) s m args below meth c H locs 0 0 (MQ below (va_Ql (xR r2) (yB dC dI cI cJ cB h v i2 j2 a2 b2 A) A) args s 0 0 A) (F0 m 423 ls []) := by
  have htt : ∀ w ∈ tw_T, w.before _ s = true := fun w h => hts w (List.mem_cons_of_mem _ h)
  intro H locs ls hP hD hS hl
  rw [m_Model_eval_b423] at hm
  refine lv_iconst (v := 0) hx hb d_Model_eval_423 (by decide) ?_
  refine lv_istore (lv' := [(15, .int 0), (0, .ref h), (1, .int v1), (9, .int v9), (10, .int v10), (11, .int v11), (12, .long v12), (14, .int v14)]) hx hb d_Model_eval_424 hl (by decide) rfl (fun ls hl => ?_)
  exact lb_Model_eval_426 d G l dC dI cI cJ cB adK adV adA h v n HG hx hb hml hown hts hK hE hA hr hlocks n _ _ _ _ _ _ _ _ _ _ _ hm _ _ _ hP hD hS (lv_sub hl [1, 2, 3, 4, 5, 6, 7, 0] rfl)
def m_Model_eval_b370 (n : Nat) (G : GB) : Nat → (Nat → Int32) → (Nat → Int64) → (Nat → Nat → Int32) → (Nat → Nat → Int64) → Int32 → Int32 → Int32 → Int32 → Int64 → Int32 → Int32 → Option ((Nat → Int32) × (Nat → Int64) × (Nat → Nat → Int32) × (Nat → Nat → Int64) × Int64)
  | 0, _, _, _, _, _, _, _, _, _, _, _ => none
  | f + 1, i, j, a, b, v1, v9, v10, v11, v12, v14, v15 => if v9 = ((-1 : Int32)) then if v11 ≤ v15 then m_Model_eval_b423 n G i j a b v1 v9 v10 v11 v12 v14 else ck (((5 * v10) + v15)) 200 (ob0 (m_Model_wordValue n (a 31 ((5 * v10) + v15).toNatClampNeg)) (fun r_5 => ck ((i 107)) 36000 (ob1 (svl b 111 (i 107).toNatClampNeg r_5 : Nat → Nat → Int64) (fun b_7 => ob1 ((i 107) + 1 : Int32) (fun x_8 => ob1 (upd i 107 x_8 : Nat → Int32) (fun i_9 => ob1 (v15 + 1 : Int32) (fun x_10 => m_Model_eval_b370 n G f i_9 j a b_7 v1 v9 v10 v11 v12 v14 x_10))))))) else m_Model_eval_b423 n G i j a b v1 v9 v10 v11 v12 v14
set_option maxHeartbeats 4000000 in
set_option maxRecDepth 100000 in
theorem lb_Model_eval_370 (d : Nat) (G : GB) (l : Launch) (dC : Nat → ClassId) (dI : Nat → Nat → Nat) (cI cJ cB : ClassId) (adK adV adA : Nat → Nat) (h : Nat) (v : Nat → Nat) (n : Nat) (HG : GH l dC dI cI cJ cB adK adV adA h v n G d) {p : Program} {e : Env} {s : State} {m : MethodId} {args : Array Value} {below : List Frame} {meth : Method} {c : Code} {A : Nat → Prop} (hx : p.tables.exec = Jvm.exec) (hb : c.code = b_Model_eval) (hml : c.maxLocals = 18) (hown : s.vm.findClass R_Model = some m.cls) (hts : ∀ w ∈ w_Model_eval, w.before args s = true) (hK : va_K (dC, dI) classes [(cI, .int), (cJ, .long), (cB, .byte)] s) (hE : tw_E adK adV adA A s s.heap) (hA : ∀ q : Nat, s.heap.size ≤ q → A q) (hr : meth.sig.returnType = (some .long)) (hlocks : meth.locks = false) {i2 : Nat → Int32} {j2 : Nat → Int64} {a2 : Nat → Nat → Int32} {b2 : Nat → Nat → Int64} {r2 : Int64} : ∀ (f : Nat) (i : Nat → Int32) (j : Nat → Int64) (a : Nat → Nat → Int32) (b : Nat → Nat → Int64) (v1 : Int32) (v9 : Int32) (v10 : Int32) (v11 : Int32) (v12 : Int64) (v14 : Int32) (v15 : Int32), m_Model_eval_b370 n G f i j a b v1 v9 v10 v11 v12 v14 v15 = some (i2, j2, a2, b2, r2) → ∀ (H : Heap) (locs : List Loc) (ls : Array Slot), va_P (dC, dI) classes (MW cI cJ cB h v i j a b) H → va_D A (MW cI cJ cB h v i j a b) → va_S A s.heap H locs → lv_has ls 18 [(0, .ref h), (1, .int v1), (9, .int v9), (10, .int v10), (11, .int v11), (12, .long v12), (14, .int v14), (15, .int v15)] → W p l e (gR (d + 1)) s m args below meth c H locs 0 0 (MQ below (va_Ql (xR r2) (yB dC dI cI cJ cB h v i2 j2 a2 b2 A) A) args s 0 0 A) (F0 m 370 ls []) := by
  have htt : ∀ w ∈ tw_T, w.before _ s = true := fun w h => hts w (List.mem_cons_of_mem _ h)
  intro f
  induction f with
  | zero =>
    intro i j a b v1 v9 v10 v11 v12 v14 v15 hm
    rw [m_Model_eval_b370] at hm
    cases hm
  | succ f ih =>
    intro i j a b v1 v9 v10 v11 v12 v14 v15 hm H locs ls hP hD hS hl
    rw [m_Model_eval_b370] at hm
    refine lv_iload hx hb d_Model_eval_370 (lv_at hl 2 rfl) ?_
    refine lv_iconst (v := -1) hx hb d_Model_eval_372 (by decide) ?_
    refine lv_icmp_ne (tgt := 423) hx hb d_Model_eval_373 (by decide) (fun c_1 => ?_) (fun c_1 => ?_)
    · replace hm := if_f c_1 hm
      exact lb_Model_eval_423 d G l dC dI cI cJ cB adK adV adA h v n HG hx hb hml hown hts hK hE hA hr hlocks _ _ _ _ _ _ _ _ _ _ hm _ _ _ hP hD hS (lv_sub hl [0, 1, 2, 3, 4, 5, 6] rfl)
    · replace hm := if_t c_1 hm
      refine lv_iload hx hb d_Model_eval_376 (lv_at hl 7 rfl) ?_
      refine lv_iload hx hb d_Model_eval_378 (lv_at hl 4 rfl) ?_
      refine lv_icmp_ge (tgt := 423) hx hb d_Model_eval_380 (by decide) (fun c_2 => ?_) (fun c_2 => ?_)
      · replace hm := if_t c_2 hm
        exact lb_Model_eval_423 d G l dC dI cI cJ cB adK adV adA h v n HG hx hb hml hown hts hK hE hA hr hlocks _ _ _ _ _ _ _ _ _ _ hm _ _ _ hP hD hS (lv_sub hl [0, 1, 2, 3, 4, 5, 6] rfl)
      · replace hm := if_f c_2 hm
        refine lv_aload_n hx hb d_Model_eval_383 rfl (lv_at hl 0 rfl) ?_
        refine va_get (D := (dC, dI)) (ci := 12) (v := .ref ((v 111))) (C := R_Model) (T := F_Model) (N := 127) hx hb htt iw_Model hown hK hP 0 yo_12 rfl 111 (Nat.le_of_ble_eq_true rfl) (htt _ lk_Model_301) (fun _ h9 => h9) yg_111 d_Model_eval_384 ?_
        refine lv_aload_n hx hb d_Model_eval_387 rfl (lv_at hl 0 rfl) ?_
        refine va_get (D := (dC, dI)) (ci := 12) (v := .int (i 107)) (C := R_Model) (T := F_Model) (N := 127) hx hb htt iw_Model hown hK hP 0 yo_12 rfl 107 (Nat.le_of_ble_eq_true rfl) (htt _ lk_Model_562) (fun _ h9 => h9) yg_107 d_Model_eval_388 ?_
        refine lv_aload_n hx hb d_Model_eval_391 rfl (lv_at hl 0 rfl) ?_
        refine va_get (D := (dC, dI)) (ci := 12) (v := .ref ((v 31))) (C := R_Model) (T := F_Model) (N := 127) hx hb htt iw_Model hown hK hP 0 yo_12 rfl 31 (Nat.le_of_ble_eq_true rfl) (htt _ lk_Model_189) (fun _ h9 => h9) yg_31 d_Model_eval_392 ?_
        refine lv_iconst (v := 5) hx hb d_Model_eval_395 (by decide) ?_
        refine lv_iload hx hb d_Model_eval_396 (lv_at hl 3 rfl) ?_
        refine lv_imul hx hb d_Model_eval_398 ?_
        refine lv_iload hx hb d_Model_eval_399 (lv_at hl 7 rfl) ?_
        refine lv_iadd hx hb d_Model_eval_401 ?_
        obtain ⟨h_3, hm⟩ := ck_some hm
        refine va_iald hx hb hK hP 25 0 ya_31 rfl h_3 d_Model_eval_402 ?_
        obtain ⟨r_5, h_4, hm⟩ := ob0_some hm
        have hFc := x_free0 hS hA
        refine va_calll (va_runS (As := [.int (a 31 ((5 * v10) + v15).toNatClampNeg)]) (rest := [.int (i 107), .ref ((v 111))]) ⟨hx, hb, hml, hown, hts⟩ (x_Model_wordValue l H.size n h_4) (va_cwS 1 hts (tw_GS tw_cons cw_Model_wordValue lk_Model_396 st_Model_wordValue ini_Model) rfl rfl rfl hd_Model_wordValue (gR_fit (d + 1) (Nat.le_of_ble_eq_true rfl) (Nat.le_of_ble_eq_true rfl))) xpS0 rfl rfl hl.1 rfl (lv_room (Nat.le_of_ble_eq_true rfl)) d_Model_eval_403 ⟨Nat.le_of_ble_eq_true rfl, Nat.le_of_ble_eq_true rfl⟩) hS (fun q _ h => hFc q h) hFc (fun r9 u9 t9 H locs ht hvm e9 hB hz1 hk1 hS => ?_)
        have e9 : r_5 = r9 := e9
        subst e9
        replace hP := x_keep hP hk1
        clear hFc hk1 hz1 hvm hB ht
        obtain ⟨h_6, hm⟩ := ck_some hm
        refine va_last hx hb hK hP hD hS 61 1 ya_111 rfl h_6 d_Model_eval_406 (fun H locs hP hD hS => ?_)
        obtain ⟨b_7, eb_7⟩ : ∃ y9 : Nat → Nat → Int64, y9 = svl b 111 (i 107).toNatClampNeg r_5 := ⟨_, rfl⟩
        replace hm := ob1_at eb_7 hm
        obtain ⟨hP, hD⟩ := yv_111 eb_7 hP hD
        refine lv_aload_n hx hb d_Model_eval_407 rfl (lv_at hl 0 rfl) ?_
        refine lv_dup hx hb d_Model_eval_408 rfl ?_
        refine va_get (D := (dC, dI)) (ci := 12) (v := .int (i 107)) (C := R_Model) (T := F_Model) (N := 127) hx hb htt iw_Model hown hK hP 0 yo_12 rfl 107 (Nat.le_of_ble_eq_true rfl) (htt _ lk_Model_562) (fun _ h9 => h9) yg_107 d_Model_eval_409 ?_
        refine lv_iconst (v := 1) hx hb d_Model_eval_412 (by decide) ?_
        refine lv_iadd hx hb d_Model_eval_413 ?_
        refine lv_topi (fun x_8 ex_8 => ?_)
        replace hm := ob1_at ex_8 hm
        refine va_put (D := (dC, dI)) (ci := 12) (v := .int x_8) (ty := .int) (C := R_Model) (T := F_Model) (N := 127) hx hb htt iw_Model t_Model t_Model_ok n_Model hown hK hP hD hS 0 yo_12 rfl 107 (Nat.le_of_ble_eq_true rfl) (htt _ lk_Model_562) (fun _ h9 => h9) rfl (by decide +kernel) rfl rfl yl_107 d_Model_eval_414 (fun H locs hP hD hS => ?_)
        obtain ⟨i_9, ei_9⟩ : ∃ y9 : Nat → Int32, y9 = upd i 107 x_8 := ⟨_, rfl⟩
        replace hm := ob1_at ei_9 hm
        obtain ⟨hP, hD⟩ := yw_107 ei_9 hP hD
        obtain ⟨x_10, ex_10⟩ : ∃ y9 : Int32, y9 = v15 + 1 := ⟨_, rfl⟩
        replace hm := ob1_at ex_10 hm
        refine lv_iinc (v := x_10) (lv' := [(15, .int x_10), (0, .ref h), (1, .int v1), (9, .int v9), (10, .int v10), (11, .int v11), (12, .long v12), (14, .int v14)]) hx hb d_Model_eval_417 hl (k := 7) rfl (by rw [ex_10]; rfl) (by decide) rfl (fun ls hl => ?_)
        refine lv_goto (tgt := 370) hx hb d_Model_eval_420 (by decide) ?_
        exact ih _ _ _ _ _ _ _ _ _ _ _ hm _ _ _ hP hD hS (lv_sub hl [1, 2, 3, 4, 5, 6, 7, 0] rfl)
